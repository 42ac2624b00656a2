final class Promise05ListTest {
    public static void main(String[] args) {
        Check check = new Check("promise 5");
        oneMore(check);
        howMany(check);
        outside(check);
        room(check);
        roomAgain(check);
        check.end();
    }

    private static void oneMore(Check check) {
        check.sentence("A number more for THE LIST");
        GroupSeats x = Hall.of(2, 2, 2);
        check.due("book(3, 0) of 2, 0, 1", Hall.book(x, 3, 0, 2, 0, 1), 0);
        check.dueSeats(x, 0, "0.");
        check.dueSeats(x, 1, "..");
        check.dueSeats(x, 2, "00");
    }

    private static void howMany(Check check) {
        check.sentence("how many");
        GroupSeats x = new GroupSeats();
        int[] numbers = {0, 9, 10, 11, 11, 0};
        for (int i = 0; i < numbers.length; i++) {
            check.due("list(" + numbers[i] + ")", x.list(numbers[i]), i + 1);
            check.due("told(4)", x.told(4), i + 1);
        }
    }

    private static void outside(Check check) {
        check.sentence("OUTSIDE: it is not 0 to 11");
        GroupSeats x = new GroupSeats();
        check.due("list(-1)", x.list(-1), GroupSeats.OUTSIDE);
        check.due("list(12)", x.list(12), GroupSeats.OUTSIDE);
        check.due("list(0)", x.list(0), 1);
        check.due("list(11)", x.list(11), 2);
        for (int number : Hall.outside(0, 11)) {
            check.due("list(" + number + ")", x.list(number), GroupSeats.OUTSIDE);
        }
        check.due("told(4)", x.told(4), 2);
    }

    private static void room(Check check) {
        check.sentence("ROOM");
        GroupSeats x = Hall.of(1, 1);
        for (int i = 0; i < 5; i++) {
            x.list(0);
        }
        check.due("list(0), a sixth", x.list(0), 6);
        for (int number = 0; number < 12; number++) {
            check.due("list(" + number + "), a seventh", x.list(number), GroupSeats.ROOM);
        }
        check.due("list(12), a seventh", x.list(12), GroupSeats.OUTSIDE);
        check.due("told(4)", x.told(4), 6);
        check.due("book(2, 1): the six are as they were", x.book(2, 1), 0);
        check.due("has(0, 1)", x.has(0, 1), 0);
        check.due("about(0, 1)", x.about(0, 1), 6);
    }

    private static void roomAgain(Check check) {
        check.sentence("ROOM", "not after book(), whatever it answered");
        for (int mode = 0; mode < 3; mode++) {
            GroupSeats x = Hall.of(1);
            for (int i = 0; i < 6; i++) {
                x.list(0);
            }
            x.book(2, mode);
            for (int i = 1; i <= 6; i++) {
                check.due("list(0)", x.list(0), i);
            }
        }
    }
}
