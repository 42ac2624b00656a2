final class Promise13WaitingTest {
    public static void main(String[] args) {
        Check check = new Check("promise 13");
        GroupSeats x = Hall.of(1);
        check.due("waiting(0)", x.waiting(0), GroupSeats.NONE);
        Hall.book(x, 60, 2, 0);
        Hall.book(x, 5, 0, 0);
        Hall.book(x, 4, 2, 0, 10);
        Hall.book(x, 4, 2, 0, 3);
        Hall.book(x, 2, 2, 0, 0);
        check.due("waiting(0)", x.waiting(0), 60);
        check.due("waiting(1)", x.waiting(1), 2);
        check.due("waiting(2)", x.waiting(2), GroupSeats.NONE);
        check.due("waiting(8)", x.waiting(8), GroupSeats.NONE);
        for (int wild : Hall.WILD) {
            check.due("waiting(" + wild + ")", x.waiting(wild), GroupSeats.NONE);
        }
        check.due("told(1): asking changes nothing", x.told(1), 2);
        x.leave(0);
        check.due("waiting(0)", x.waiting(0), 2);
        check.due("waiting(1)", x.waiting(1), GroupSeats.NONE);
        check.end();
    }
}
