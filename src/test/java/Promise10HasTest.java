final class Promise10HasTest {
    public static void main(String[] args) {
        Check check = new Check("promise 10");
        GroupSeats x = Hall.of(4, 20, 3);
        check.due("has(0, 0), no booking yet", x.has(0, 0), GroupSeats.OUTSIDE);
        Hall.book(x, 1, 0, 0);
        Hall.book(x, 22, 0, 0, 1);
        check.due("has(0, 0)", x.has(0, 0), 1);
        check.due("has(0, 1)", x.has(0, 1), 0);
        check.due("has(1, 0)", x.has(1, 0), 3);
        check.due("has(1, 1)", x.has(1, 1), 19);
        check.due("has(1, 2)", x.has(1, 2), 0);
        check.due("has(1, 9), not open", x.has(1, 9), 0);
        check.due("has(0, 9), not open", x.has(0, 9), 0);
        x.shut(2);
        check.due("has(0, 2), shut", x.has(0, 2), 0);
        check.due("has(1, 10)", x.has(1, 10), GroupSeats.OUTSIDE);
        check.due("has(2, 0)", x.has(2, 0), GroupSeats.OUTSIDE);
        for (int wild : Hall.WILD) {
            check.due("has(" + wild + ", 0)", x.has(wild, 0), GroupSeats.OUTSIDE);
            check.due("has(0, " + wild + ")", x.has(0, wild), GroupSeats.OUTSIDE);
        }
        x.cancel(1);
        check.due("has(1, 0), cancelled", x.has(1, 0), 0);
        check.due("has(1, 1), cancelled", x.has(1, 1), 0);
        check.due("has(0, 0)", x.has(0, 0), 1);
        heldTwiceIsOneSum(check);
        check.end();
    }

    private static void heldTwiceIsOneSum(Check check) {
        GroupSeats x = Hall.of(8);
        Hall.book(x, 3, 0, 0);
        Hall.book(x, 1, 0, 0);
        x.cancel(0);
        x.strict(0, true);
        Hall.book(x, 7, 0, 0, 0);
        check.due("has(2, 0)", x.has(2, 0), 7);
    }
}
