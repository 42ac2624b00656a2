final class Promise08LeaveTest {
    public static void main(String[] args) {
        Check check = new Check("promise 8");
        goes(check);
        withItsList(check);
        howMany(check);
        nobody(check);
        check.end();
    }

    private static void goes(Check check) {
        check.sentence("Who waits in place k goes");
        GroupSeats x = Hall.withWaiting(8);
        x.leave(7);
        check.dueWaiting(x, 2, 3, 4, 5, 6, 7, 8);
        x.leave(0);
        check.dueWaiting(x, 3, 4, 5, 6, 7, 8);
        x.leave(2);
        check.dueWaiting(x, 3, 4, 6, 7, 8);
        check.due("told(3): nobody is tried", x.told(3), 8);
        Hall.book(x, 12, 2, 0);
        check.dueWaiting(x, 3, 4, 6, 7, 8, 12);
        x.shut(0);
        check.due("open(0, 5): 2 and 5 are gone", x.open(0, 5), 1);
        check.dueSeats(x, 0, "000..");
    }

    /** Those behind keep their own lists, and a list in the making is nobody else's. */
    private static void withItsList(Check check) {
        check.sentence("Who waits in place k goes", "the others keep their LISTS");
        GroupSeats x = Hall.of(1, 1, 1);
        Hall.book(x, 2, 2, 0);
        Hall.book(x, 3, 2, 1);
        Hall.book(x, 4, 2, 2);
        x.list(2);
        x.leave(0);
        check.due("told(4)", x.told(4), 1);
        check.due("book(5, 2) of 2, 0", Hall.book(x, 5, 2, 0), GroupSeats.WAITS);
        for (int row = 0; row < 3; row++) {
            x.shut(row);
        }
        check.due("open(0, 20)", x.open(0, 20), 0);
        check.due("open(1, 20)", x.open(1, 20), 1);
        check.due("has(0, 1)", x.has(0, 1), 3);
        check.due("open(2, 20)", x.open(2, 20), 2);
        check.due("has(1, 2)", x.has(1, 2), 4);
        check.due("has(2, 2)", x.has(2, 2), 5);
    }

    private static void howMany(Check check) {
        check.sentence("how many that PARTY was");
        for (int k = 0; k < 8; k++) {
            check.due("leave(" + k + ") of eight", Hall.withWaiting(8).leave(k), k + 2);
        }
        GroupSeats x = Hall.of(1, 1);
        Hall.book(x, 60, 2, 0, 1);
        check.due("leave(0), the largest", x.leave(0), 60);
        Hall.book(x, 1, 0, 0);
        Hall.book(x, 1, 2, 0);
        check.due("leave(0), the smallest", x.leave(0), 1);
    }

    private static void nobody(Check check) {
        check.sentence("OUTSIDE: nobody");
        for (int count = 0; count <= 8; count++) {
            GroupSeats x = Hall.withWaiting(count);
            for (int k : Hall.outside(0, count - 1)) {
                check.due("leave(" + k + "), " + count + " wait", x.leave(k), GroupSeats.OUTSIDE);
            }
            check.due("told(1)", x.told(1), count);
            for (int i = 0; i < count; i++) {
                x.leave(0);
            }
            check.due("leave(0), all have gone", x.leave(0), GroupSeats.OUTSIDE);
        }
    }
}
