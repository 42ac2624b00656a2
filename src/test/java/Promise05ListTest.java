final class Promise05ListTest {
    public static void main(String[] args) {
        Check check = new Check("promise 5");
        GroupSeats x = new GroupSeats();
        check.due("list(12)", x.list(12), GroupSeats.OUTSIDE);
        int[] numbers = {0, 9, 10, 11, 11, 0};
        for (int i = 0; i < numbers.length; i++) {
            check.due("list(" + numbers[i] + ")", x.list(numbers[i]), i + 1);
            check.due("told(4)", x.told(4), i + 1);
        }
        check.due("list(3), a seventh", x.list(3), GroupSeats.ROOM);
        check.due("list(12), a seventh", x.list(12), GroupSeats.OUTSIDE);
        for (int wild : Hall.WILD) {
            check.due("list(" + wild + ")", x.list(wild), GroupSeats.OUTSIDE);
        }
        check.due("told(4)", x.told(4), 6);
        inItsOrder(check);
        check.end();
    }

    private static void inItsOrder(Check check) {
        GroupSeats x = Hall.of(2, 2, 2);
        check.due("book(3, 0) of 2, 0, 1", Hall.book(x, 3, 0, 2, 0, 1), 0);
        check.dueSeats(x, 0, "0.");
        check.dueSeats(x, 1, "..");
        check.dueSeats(x, 2, "00");
        x.list(0);
        x.list(12);
        x.list(-1);
        check.due("told(4): refused numbers are not in it", x.told(4), 1);
    }
}
