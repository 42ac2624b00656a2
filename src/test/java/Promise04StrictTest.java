final class Promise04StrictTest {
    public static void main(String[] args) {
        Check check = new Check("promise 4");
        strictOrNot(check);
        whetherItWas(check);
        outside(check);
        notOpen(check);
        check.end();
    }

    private static void strictOrNot(Check check) {
        check.sentence("A ROW is STRICT, or not");
        GroupSeats x = Hall.withRow(".#...");
        x.open(1, 5);
        x.strict(0, true);
        check.due("book(2, 0), STRICT", Hall.book(x, 2, 0, 0), 3);
        check.dueSame("row 0", Hall.seatsFor(x, 3), ".#**.");
        x.cancel(3);
        x.strict(0, false);
        check.due("book(2, 0), not STRICT", Hall.book(x, 2, 0, 0), 4);
        check.dueSame("row 0", Hall.seatsFor(x, 4), "*#*..");
        x.strict(1, true);
        check.due("book(2, 1), another one STRICT", Hall.book(x, 2, 1, 0), 5);
        check.dueSame("row 0", Hall.seatsFor(x, 5), "###**");
    }

    private static void whetherItWas(Check check) {
        check.sentence("whether it was (1, 0)");
        GroupSeats x = Hall.of(5, 5, 5, 5, 5, 5, 5, 5, 5, 5);
        for (int row = 0; row < 10; row++) {
            check.due("strict(" + row + ", false)", x.strict(row, false), 0);
            check.due("strict(" + row + ", true)", x.strict(row, true), 0);
            check.due("strict(" + row + ", true), again", x.strict(row, true), 1);
            check.due("strict(" + row + ", false)", x.strict(row, false), 1);
            check.due("strict(" + row + ", false), again", x.strict(row, false), 0);
        }
    }

    private static void outside(Check check) {
        check.sentence("OUTSIDE");
        GroupSeats x = Hall.of(1, 1, 1, 1, 1, 1, 1, 1, 1, 1);
        for (int row : Hall.outside(0, 9)) {
            check.due("strict(" + row + ", true)", x.strict(row, true), GroupSeats.OUTSIDE);
            check.due("strict(" + row + ", false)", x.strict(row, false), GroupSeats.OUTSIDE);
        }
        for (int row = 0; row < 10; row++) {
            check.due("strict(" + row + ", false)", x.strict(row, false), 0);
        }
    }

    private static void notOpen(Check check) {
        check.sentence("STATE: it is not OPEN");
        GroupSeats x = Hall.of(5);
        x.strict(0, true);
        x.shut(0);
        check.due("strict(0, true), shut", x.strict(0, true), GroupSeats.STATE);
        check.due("strict(0, false), shut", x.strict(0, false), GroupSeats.STATE);
        check.due("strict(9, true), never OPEN", x.strict(9, true), GroupSeats.STATE);
        x.open(9, 1);
        check.due("strict(9, false): that changed nothing", x.strict(9, false), 0);
    }
}
