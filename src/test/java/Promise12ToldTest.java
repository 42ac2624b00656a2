final class Promise12ToldTest {
    public static void main(String[] args) {
        Check check = new Check("promise 12");
        counts(check);
        mostRowsHeld(check);
        failuresEachTime(check);
        refuses(check);
        check.end();
    }

    private static void counts(Check check) {
        GroupSeats x = Hall.of(4, 4, 4);
        Hall.book(x, 5, 0, 0, 1);
        Hall.book(x, 9, 2, 1);
        Hall.book(x, 9, 1, 1, 10);
        x.list(1);
        x.list(1);
        check.dueTold(x, 2, 1, 2, 1, 2, 3);
        x.cancel(0);
        x.shut(0);
        check.dueTold(x, 2, 1, 2, 2, 2, 2);
    }

    private static void mostRowsHeld(Check check) {
        GroupSeats x = Hall.of(1, 1);
        Hall.book(x, 1, 0, 7);
        Hall.book(x, 1, 0, 11);
        check.due("told(2): none held yet", x.told(2), 0);
        Hall.book(x, 9, 0, 0, 1, 0, 7);
        check.due("told(2): one of them twice", x.told(2), 3);
        Hall.book(x, 1, 0, 0);
        check.due("told(2): the most stays", x.told(2), 3);
        Hall.book(x, 9, 0, 0, 0, 0, 0, 0, 0);
        check.due("told(2): six times", x.told(2), 6);
    }

    private static void failuresEachTime(Check check) {
        GroupSeats x = Hall.of(1);
        Hall.book(x, 2, 0, 0);
        Hall.book(x, 2, 0, 0, 5);
        Hall.book(x, 2, 0, 10);
        Hall.book(x, 2, 2, 0);
        check.due("told(3)", x.told(3), 4);
        Hall.book(x, 2, 1, 0, 5);
        check.due("told(3): it kept a SEAT", x.told(3), 4);
        Hall.book(x, 2, 1, 0, 5);
        check.due("told(3): it had none", x.told(3), 5);
        x.cancel(0);
        check.due("told(3): it was tried", x.told(3), 6);
        x.open(5, 1);
        check.due("told(3): it was tried again", x.told(3), 7);
        x.book(1, 0);
        x.book(0, 0);
        check.due("told(3): refused calls are no PARTIES", x.told(3), 7);
    }

    private static void refuses(Check check) {
        GroupSeats x = Hall.of(1);
        check.due("told(6)", x.told(6), GroupSeats.OUTSIDE);
        for (int wild : Hall.WILD) {
            check.due("told(" + wild + ")", x.told(wild), GroupSeats.OUTSIDE);
        }
    }
}
