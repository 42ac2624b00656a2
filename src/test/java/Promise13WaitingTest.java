final class Promise13WaitingTest {
    public static void main(String[] args) {
        Check check = new Check("promise 13");
        howMany(check);
        inEveryPlace(check);
        none(check);
        changesNothing(check);
        check.end();
    }

    private static void howMany(Check check) {
        check.sentence("How many the PARTY is that waits in place k");
        GroupSeats x = Hall.of(1);
        Hall.book(x, 60, 2, 0);
        Hall.book(x, 5, 0, 0);
        Hall.book(x, 4, 2, 0, 10);
        Hall.book(x, 4, 2, 0, 3);
        Hall.book(x, 2, 2, 0, 0);
        Hall.book(x, 1, 0, 0);
        Hall.book(x, 1, 2, 0);
        check.due("waiting(0), the largest", x.waiting(0), 60);
        check.due("waiting(1)", x.waiting(1), 2);
        check.due("waiting(2), the smallest", x.waiting(2), 1);
    }

    private static void inEveryPlace(Check check) {
        check.sentence("that waits in place k");
        GroupSeats x = Hall.withWaiting(8);
        for (int k = 0; k < 8; k++) {
            check.due("waiting(" + k + ")", x.waiting(k), k + 2);
        }
        x.leave(0);
        for (int k = 0; k < 7; k++) {
            check.due("waiting(" + k + "), the first has gone", x.waiting(k), k + 3);
        }
    }

    private static void none(Check check) {
        check.sentence("NONE");
        for (int count = 0; count <= 8; count++) {
            GroupSeats x = Hall.withWaiting(count);
            for (int k : Hall.outside(0, count - 1)) {
                check.due("waiting(" + k + "), " + count + " wait", x.waiting(k), GroupSeats.NONE);
            }
        }
        GroupSeats x = Hall.withWaiting(1);
        x.leave(0);
        check.due("waiting(0), it has gone", x.waiting(0), GroupSeats.NONE);
    }

    private static void changesNothing(Check check) {
        check.sentence("How many the PARTY is that waits in place k", "to ask changes nothing");
        GroupSeats x = Hall.withWaiting(3);
        x.waiting(1);
        x.waiting(9);
        check.dueWaiting(x, 2, 3, 4);
        check.due("told(3)", x.told(3), 3);
    }
}
