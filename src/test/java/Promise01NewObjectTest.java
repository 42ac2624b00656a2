final class Promise01NewObjectTest {
    public static void main(String[] args) {
        Check check = new Check("promise 1");
        GroupSeats x = new GroupSeats();
        check.dueTold(x, 0, 0, 0, 0, 0, 0);
        for (int row = 0; row < 10; row++) {
            check.due("about(" + row + ", 3)", x.about(row, 3), GroupSeats.STATE);
            check.due("seat(" + row + ", 0)", x.seat(row, 0), GroupSeats.STATE);
        }
        for (int k = 0; k < 9; k++) {
            check.due("waiting(" + k + ")", x.waiting(k), GroupSeats.NONE);
        }
        check.due("cancel(0)", x.cancel(0), GroupSeats.OUTSIDE);
        check.due("has(0, 0)", x.has(0, 0), GroupSeats.OUTSIDE);
        check.due("book(1, 0)", x.book(1, 0), GroupSeats.STATE);
        objectsShareNothing(check);
        check.end();
    }

    private static void objectsShareNothing(Check check) {
        GroupSeats used = Hall.of(3);
        Hall.book(used, 1, 0, 0);
        Hall.book(used, 9, 2, 0);
        used.list(4);
        check.dueTold(new GroupSeats(), 0, 0, 0, 0, 0, 0);
    }
}
