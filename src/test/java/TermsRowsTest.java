/** The sentences of "Terms" about ROWS, SEATS and THE LIST. */
final class TermsRowsTest {
    public static void main(String[] args) {
        Check check = new Check("terms, rows");
        rows(check);
        noneAtFirst(check);
        seats(check);
        freeOrOfABooking(check);
        mayBeStrict(check);
        listOfSix(check);
        listedNumbers(check);
        noRow(check);
        sameNumberAgain(check);
        check.end();
    }

    private static void rows(Check check) {
        check.sentence("ROWS 0 to 9 are OPEN or not");
        GroupSeats x = new GroupSeats();
        for (int row = 0; row < 10; row++) {
            check.due("open(" + row + ", 3)", x.open(row, 3), 0);
            check.due("told(5)", x.told(5), row + 1);
        }
        for (int row = 0; row < 10; row++) {
            check.due("shut(" + row + ")", x.shut(row), 3);
            check.due("told(5)", x.told(5), 9 - row);
        }
        for (int row : Hall.outside(0, 9)) {
            check.due("open(" + row + ", 3)", x.open(row, 3), GroupSeats.OUTSIDE);
            check.due("shut(" + row + ")", x.shut(row), GroupSeats.OUTSIDE);
        }
        check.due("told(5)", x.told(5), 0);
    }

    private static void noneAtFirst(Check check) {
        check.sentence("(none is at first)");
        GroupSeats x = new GroupSeats();
        check.due("told(5)", x.told(5), 0);
        for (int row = 0; row < 10; row++) {
            check.due("about(" + row + ", 3)", x.about(row, 3), GroupSeats.STATE);
        }
    }

    private static void seats(Check check) {
        check.sentence("an OPEN one has SEATS 0, 1, .. (1 to 20)");
        for (int seats = 1; seats <= 20; seats++) {
            GroupSeats x = Hall.of(seats);
            check.due("about(0, 3)", x.about(0, 3), seats);
            check.due("seat(0, 0)", x.seat(0, 0), GroupSeats.NONE);
            check.due("the last seat of " + seats, x.seat(0, seats - 1), GroupSeats.NONE);
            check.due("a seat behind the last of " + seats, x.seat(0, seats), GroupSeats.STATE);
        }
        GroupSeats x = new GroupSeats();
        for (int seats : Hall.outside(1, 20)) {
            check.due("open(0, " + seats + ")", x.open(0, seats), GroupSeats.OUTSIDE);
        }
        check.due("told(5)", x.told(5), 0);
    }

    private static void freeOrOfABooking(Check check) {
        check.sentence("each free or of a BOOKING");
        GroupSeats x = Hall.of(3);
        check.dueSeats(x, 0, "...");
        Hall.book(x, 2, 0, 0);
        check.dueSeats(x, 0, "00.");
        Hall.book(x, 1, 0, 0);
        check.dueSeats(x, 0, "001");
        x.cancel(0);
        check.dueSeats(x, 0, "..1");
        Hall.book(x, 3, 0, 0);
        check.dueSeats(x, 0, "..1");
    }

    private static void mayBeStrict(Check check) {
        check.sentence("and may be STRICT");
        GroupSeats x = Hall.of(2, 2);
        x.strict(1, true);
        check.due("strict(0, false)", x.strict(0, false), 0);
        check.due("strict(1, false)", x.strict(1, false), 1);
    }

    private static void listOfSix(Check check) {
        check.sentence("THE LIST has up to 6 numbers");
        GroupSeats x = new GroupSeats();
        for (int i = 1; i <= 6; i++) {
            check.due("list(" + i + ")", x.list(i), i);
        }
        check.due("list(7), a seventh", x.list(7), GroupSeats.ROOM);
        check.due("told(4)", x.told(4), 6);
        GroupSeats each = Hall.of(1, 1, 1, 1, 1, 1, 1);
        check.due("book(6, 0) of six rows", Hall.book(each, 6, 0, 0, 1, 2, 3, 4, 5), 0);
        check.due("has(0, 5): the sixth counts", each.has(0, 5), 1);
        each.cancel(0);
        check.due("book(7, 0) of seven rows", Hall.book(each, 7, 0, 0, 1, 2, 3, 4, 5, 6), GroupSeats.SHORT);
        check.due("about(6, 1): the seventh is not in it", each.about(6, 1), 0);
    }

    private static void listedNumbers(Check check) {
        check.sentence("numbers 0 to 11");
        for (int number = 0; number < 12; number++) {
            check.due("list(" + number + ")", new GroupSeats().list(number), 1);
        }
        GroupSeats x = new GroupSeats();
        for (int number : Hall.outside(0, 11)) {
            check.due("list(" + number + ")", x.list(number), GroupSeats.OUTSIDE);
        }
        check.due("told(4)", x.told(4), 0);
    }

    private static void noRow(Check check) {
        check.sentence("(10, 11: no ROW)");
        GroupSeats x = Hall.of(1, 1, 1, 1, 1, 1, 1, 1, 1, 1);
        check.due("book(1, 0) of 9", Hall.book(x, 1, 0, 9), 0);
        check.due("book(1, 0) of 10", Hall.book(x, 1, 0, 10), GroupSeats.NO_ROW);
        check.due("book(1, 0) of 11", Hall.book(x, 1, 0, 11), GroupSeats.NO_ROW);
    }

    private static void sameNumberAgain(Check check) {
        check.sentence("the same one perhaps again");
        GroupSeats x = new GroupSeats();
        for (int i = 1; i <= 6; i++) {
            check.due("list(4)", x.list(4), i);
        }
        check.due("open(4, 9)", x.open(4, 9), 0);
        check.due("book(10, 0)", x.book(10, 0), GroupSeats.SHORT);
        check.due("about(4, 1)", x.about(4, 1), 6);
        check.due("book(2, 0) of 10, 10", Hall.book(x, 2, 0, 10, 10), GroupSeats.NO_ROW);
    }
}
