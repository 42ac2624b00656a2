import java.util.function.Supplier;
import java.util.function.ToIntFunction;

/** The sentences of "Terms" about the codes: their numbers, which one comes first, and that they change nothing. */
final class TermsCodesTest {
    private final Check check = new Check("terms, codes");

    public static void main(String[] args) {
        TermsCodesTest test = new TermsCodesTest();
        test.numbers();
        test.firstThatIsNamed();
        test.outsideChangesNothing();
        test.stateChangesNothing();
        test.roomChangesNothing();
        test.check.end();
    }

    private void numbers() {
        check.sentence("Codes: OUTSIDE -1", "and the others in their order");
        int[] codes = {GroupSeats.OUTSIDE, GroupSeats.STATE, GroupSeats.ROOM, GroupSeats.SHORT,
            GroupSeats.SHUT, GroupSeats.NO_ROW, GroupSeats.WAITS, GroupSeats.NONE};
        for (int i = 0; i < codes.length; i++) {
            check.due("code " + i, codes[i], -1 - i);
        }
    }

    private void firstThatIsNamed() {
        check.sentence("of several the first one that a call names");
        GroupSeats x = inUse();
        check.due("open(0, 0), OPEN", x.open(0, 0), GroupSeats.OUTSIDE);
        check.due("open(0, 21), OPEN", x.open(0, 21), GroupSeats.OUTSIDE);
        check.due("seat(2, -1), not OPEN", x.seat(2, -1), GroupSeats.OUTSIDE);
        check.due("seat(10, 99)", x.seat(10, 99), GroupSeats.OUTSIDE);
        check.due("about(2, 4), not OPEN", x.about(2, 4), GroupSeats.OUTSIDE);
        check.due("about(2, -1), not OPEN", x.about(2, -1), GroupSeats.OUTSIDE);
        check.due("has(99, 2), not OPEN", x.has(99, 2), GroupSeats.OUTSIDE);
        check.due("list(12), no room", listFull().list(12), GroupSeats.OUTSIDE);
        check.due("list(-1), no room", listFull().list(-1), GroupSeats.OUTSIDE);
        check.due("book(0, 0), no list", new GroupSeats().book(0, 0), GroupSeats.OUTSIDE);
        check.due("book(1, 3), no list", new GroupSeats().book(1, 3), GroupSeats.OUTSIDE);
        check.due("book(61, 0), no room", fullyBooked().book(61, 0), GroupSeats.OUTSIDE);
        check.due("book(1, -1), no room", fullyBooked().book(1, -1), GroupSeats.OUTSIDE);
        check.due("book(1, 0), no list and no room", Hall.withBookings(40).book(1, 0), GroupSeats.STATE);
        check.due("book(0, 0), no list and no room", Hall.withBookings(40).book(0, 0), GroupSeats.OUTSIDE);
        check.due("book(60, 2) of 10, no room", Hall.book(Hall.withBookings(40), 60, 2, 10), GroupSeats.ROOM);
    }

    private void outsideChangesNothing() {
        check.sentence("What answers OUTSIDE, STATE, ROOM changes nothing", "OUTSIDE");
        Supplier<GroupSeats> hall = TermsCodesTest::inUse;
        for (int wrong : Hall.outside(0, 11)) {
            refused(hall, "list(" + wrong + ")", -1, x -> x.list(wrong));
        }
        for (int wrong : Hall.outside(0, 9)) {
            refused(hall, "open(" + wrong + ", 5)", -1, x -> x.open(wrong, 5));
            refused(hall, "shut(" + wrong + ")", -1, x -> x.shut(wrong));
            refused(hall, "strict(" + wrong + ", true)", -1, x -> x.strict(wrong, true));
            refused(hall, "seat(" + wrong + ", 0)", -1, x -> x.seat(wrong, 0));
            refused(hall, "has(1, " + wrong + ")", -1, x -> x.has(1, wrong));
            refused(hall, "about(" + wrong + ", 0)", -1, x -> x.about(wrong, 0));
        }
        for (int wrong : Hall.outside(1, 20)) {
            refused(hall, "open(3, " + wrong + ")", -1, x -> x.open(3, wrong));
        }
        for (int wrong : Hall.outside(1, 60)) {
            refused(hall, "book(" + wrong + ", 1)", -1, x -> x.book(wrong, 1));
        }
        for (int wrong : Hall.outside(0, 2)) {
            refused(hall, "book(1, " + wrong + ")", -1, x -> x.book(1, wrong));
            refused(hall, "cancel(" + wrong + ")", -1, x -> x.cancel(wrong));
            refused(hall, "has(" + wrong + ", 0)", -1, x -> x.has(wrong, 0));
        }
        for (int wrong : Hall.outside(0, 1)) {
            refused(hall, "leave(" + wrong + ")", -1, x -> x.leave(wrong));
        }
        for (int wrong : Hall.outside(0, 3)) {
            refused(hall, "about(0, " + wrong + ")", -1, x -> x.about(0, wrong));
        }
        for (int wrong : Hall.outside(0, 5)) {
            refused(hall, "told(" + wrong + ")", -1, x -> x.told(wrong));
        }
        refused(hall, "seat(0, -1)", -1, x -> x.seat(0, -1));
    }

    private void stateChangesNothing() {
        check.sentence("What answers OUTSIDE, STATE, ROOM changes nothing", "STATE");
        Supplier<GroupSeats> hall = TermsCodesTest::inUse;
        refused(hall, "open(0, 4), OPEN", -2, x -> x.open(0, 4));
        refused(hall, "open(1, 20), OPEN", -2, x -> x.open(1, 20));
        refused(hall, "shut(2), not OPEN", -2, x -> x.shut(2));
        refused(hall, "shut(0), booked", -2, x -> x.shut(0));
        refused(hall, "strict(2, true), not OPEN", -2, x -> x.strict(2, true));
        refused(hall, "cancel(0), cancelled", -2, x -> x.cancel(0));
        refused(hall, "seat(2, 0), not OPEN", -2, x -> x.seat(2, 0));
        refused(hall, "seat(0, 4), none", -2, x -> x.seat(0, 4));
        refused(hall, "about(2, 0), not OPEN", -2, x -> x.about(2, 0));
        for (int mode = 0; mode < 3; mode++) {
            int of = mode;
            refused(TermsCodesTest::listEmpty, "book(1, " + mode + "), no list", -2, x -> x.book(1, of));
        }
    }

    private void roomChangesNothing() {
        check.sentence("What answers OUTSIDE, STATE, ROOM changes nothing", "ROOM");
        for (int number = 0; number < 12; number++) {
            int seventh = number;
            refused(TermsCodesTest::listFull, "list(" + number + "), a seventh", -3, x -> x.list(seventh));
        }
        for (int mode = 0; mode < 3; mode++) {
            int of = mode;
            refused(TermsCodesTest::fullyBooked, "book(1, " + mode + ")", -3, x -> x.book(1, of));
            refused(TermsCodesTest::fullyBooked, "book(60, " + mode + ")", -3, x -> x.book(60, of));
        }
    }

    private void refused(Supplier<GroupSeats> hall, String name, int code, ToIntFunction<GroupSeats> call) {
        for (int n : new int[] {3, 60}) {
            GroupSeats asked = hall.get();
            GroupSeats twin = hall.get();
            check.due(name, call.applyAsInt(asked), code);
            check.dueSame("the object after " + name, Twins.view(asked), Twins.view(twin));
            check.dueSame("what comes after " + name, Twins.aftermath(asked, n), Twins.aftermath(twin, n));
        }
    }

    /** Rows that are STRICT, not so, and shut; bookings 0 (cancelled) to 2; two that wait. */
    private static GroupSeats listEmpty() {
        GroupSeats x = Hall.of(4, 3, 2);
        x.open(9, 5);
        x.strict(0, true);
        Hall.book(x, 1, 0, 0);
        Hall.book(x, 2, 1, 0, 1);
        Hall.book(x, 1, 0, 1);
        Hall.book(x, 8, 2, 9, 1);
        Hall.book(x, 6, 2, 0);
        x.cancel(0);
        x.shut(2);
        return x;
    }

    private static GroupSeats inUse() {
        GroupSeats x = listEmpty();
        x.list(1);
        x.list(0);
        x.list(1);
        return x;
    }

    private static GroupSeats listFull() {
        GroupSeats x = inUse();
        x.list(0);
        x.list(1);
        x.list(9);
        return x;
    }

    /** 40 bookings, free seats, and one that waits and would be DONE if it were tried. */
    private static GroupSeats fullyBooked() {
        GroupSeats x = Hall.withBookings(39);
        Hall.book(x, 2, 2, 0);
        Hall.book(x, 1, 0, 1);
        x.cancel(0);
        x.cancel(2);
        x.cancel(4);
        x.list(0);
        x.list(10);
        return x;
    }
}
