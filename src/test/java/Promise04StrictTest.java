final class Promise04StrictTest {
    public static void main(String[] args) {
        Check check = new Check("promise 4");
        answers(check);
        firstLongEnough(check);
        longestElse(check);
        oneSeatMidway(check);
        noFreeSeat(check);
        onlyWhereItIsOn(check);
        check.end();
    }

    private static void answers(Check check) {
        GroupSeats x = Hall.of(5, 5);
        check.due("strict(0, true)", x.strict(0, true), 0);
        check.due("strict(0, true) again", x.strict(0, true), 1);
        check.due("strict(1, false)", x.strict(1, false), 0);
        check.due("strict(0, false)", x.strict(0, false), 1);
        check.due("strict(0, false) again", x.strict(0, false), 0);
        check.due("strict(2, true)", x.strict(2, true), GroupSeats.STATE);
        check.due("strict(10, true)", x.strict(10, true), GroupSeats.OUTSIDE);
        for (int wild : Hall.WILD) {
            check.due("strict(" + wild + ", true)", x.strict(wild, true), GroupSeats.OUTSIDE);
        }
        x.open(2, 1);
        check.due("strict(2, false): refused while not open", x.strict(2, false), 0);
    }

    /** A row with free stretches of 1, 2, 4, 2 and 4 seats. */
    private static GroupSeats gaps() {
        GroupSeats x = Hall.of(17);
        for (int n : new int[] {1, 1, 2, 1, 4, 1, 2, 1, 4}) {
            Hall.book(x, n, 0, 0);
        }
        for (int booking = 0; booking < 9; booking += 2) {
            x.cancel(booking);
        }
        x.strict(0, true);
        return x;
    }

    private static void firstLongEnough(Check check) {
        String[] want = {
            "91..3....5..7....", ".1993....5..7....", ".1..3999.5..7....", ".1..399995..7...."};
        for (int n = 1; n <= 4; n++) {
            GroupSeats x = gaps();
            check.due("book(" + n + ", 0)", Hall.book(x, n, 0, 0), 9);
            check.dueSeats(x, 0, want[n - 1]);
        }
    }

    private static void longestElse(Check check) {
        GroupSeats x = gaps();
        check.due("book(5, 1)", Hall.book(x, 5, 1, 0), 9);
        check.dueSeats(x, 0, ".1..399995..7....");
        check.due("book(60, 1)", Hall.book(x, 60, 1, 0), 10);
        check.dueSeats(x, 0, ".1..399995..7aaaa");
        check.due("book(3, 1)", Hall.book(x, 3, 1, 0), 11);
        check.dueSeats(x, 0, ".1bb399995..7aaaa");
        GroupSeats again = gaps();
        check.due("book(7, 0) of 0, 0", Hall.book(again, 7, 0, 0, 0), 9);
        check.dueSeats(again, 0, ".1..399995..7999.");
    }

    private static void oneSeatMidway(Check check) {
        GroupSeats x = Hall.of(4);
        for (int n : new int[] {2, 1, 1}) {
            Hall.book(x, n, 0, 0);
        }
        x.cancel(1);
        x.strict(0, true);
        check.due("book(1, 0)", Hall.book(x, 1, 0, 0), 3);
        check.dueSeats(x, 0, "0032");
    }

    private static void noFreeSeat(Check check) {
        GroupSeats x = Hall.of(2, 2);
        x.strict(0, true);
        Hall.book(x, 2, 0, 0);
        check.due("book(2, 0) of 0, full", Hall.book(x, 2, 0, 0), GroupSeats.SHORT);
        check.due("book(2, 0) of 0, 1", Hall.book(x, 2, 0, 0, 1), 1);
        check.dueSeats(x, 0, "00");
        check.dueSeats(x, 1, "11");
    }

    private static void onlyWhereItIsOn(Check check) {
        GroupSeats x = gaps();
        x.strict(0, false);
        check.due("book(5, 0)", Hall.book(x, 5, 0, 0), 9);
        check.dueSeats(x, 0, "9199399..5..7....");
    }
}
