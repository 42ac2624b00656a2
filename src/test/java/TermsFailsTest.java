/** The sentences of "Terms" about a PARTY that FAILS, that keeps what it has, and that is a BOOKING. */
final class TermsFailsTest {
    public static void main(String[] args) {
        Check check = new Check("terms, fails");
        byShort(check);
        byShut(check);
        byNoRow(check);
        firstThatIsMet(check);
        givesBack(check);
        oneBackMore(check);
        noBackWithoutASeat(check);
        onceForEachTime(check);
        keepsWithASeatAtLeast(check);
        failsWithoutASeat(check);
        numberedFromZero(check);
        fortyAtMost(check);
        check.end();
    }

    private static void byShort(Check check) {
        check.sentence("If THE LIST ends ahead of that it FAILS by SHORT");
        GroupSeats x = Hall.of(3, 3);
        check.due("book(4, 0) of 0", Hall.book(x, 4, 0, 0), GroupSeats.SHORT);
        check.due("book(7, 0) of 0, 1", Hall.book(x, 7, 0, 0, 1), GroupSeats.SHORT);
        check.due("book(7, 0) of six", Hall.book(x, 7, 0, 0, 1, 0, 1, 0, 1), GroupSeats.SHORT);
        check.due("told(3)", x.told(3), 3);
        check.due("book(6, 0) of 0, 1: the last seat in the last row", Hall.book(x, 6, 0, 0, 1), 0);
        check.due("book(1, 0) of 1, full", Hall.book(x, 1, 0, 1), GroupSeats.SHORT);
    }

    private static void byShut(Check check) {
        check.sentence("if the next one is not OPEN, by SHUT");
        GroupSeats x = Hall.of(3, 3);
        x.shut(1);
        check.due("book(1, 0) of 1, which was shut", Hall.book(x, 1, 0, 1), GroupSeats.SHUT);
        check.due("book(1, 0) of 9, never OPEN", Hall.book(x, 1, 0, 9), GroupSeats.SHUT);
        check.due("book(4, 0) of 0, 1", Hall.book(x, 4, 0, 0, 1), GroupSeats.SHUT);
        check.due("book(4, 0) with 1 in place six", Hall.book(x, 4, 0, 0, 0, 0, 0, 0, 1), GroupSeats.SHUT);
        check.due("book(4, 0) of 0, 1, 0", Hall.book(x, 4, 0, 0, 1, 0), GroupSeats.SHUT);
        check.due("told(3)", x.told(3), 5);
        x.open(1, 1);
        check.due("book(4, 0) of 0, 1, OPEN anew", Hall.book(x, 4, 0, 0, 1), 0);
    }

    private static void byNoRow(Check check) {
        check.sentence("if it is none, by NO_ROW");
        GroupSeats x = Hall.of(3);
        for (int none = 10; none < 12; none++) {
            check.due("book(1, 0) of " + none, Hall.book(x, 1, 0, none), GroupSeats.NO_ROW);
            check.due("book(4, 0) of 0, " + none, Hall.book(x, 4, 0, 0, none), GroupSeats.NO_ROW);
            check.due("book(4, 0) with " + none + " in place six",
                    Hall.book(x, 4, 0, 0, 0, 0, 0, 0, none), GroupSeats.NO_ROW);
        }
        check.due("told(3)", x.told(3), 6);
    }

    private static void firstThatIsMet(Check check) {
        check.sentence("if the next one is not OPEN, by SHUT; if it is none, by NO_ROW");
        GroupSeats x = Hall.of(3);
        check.due("book(4, 0) of 0, 5, 10", Hall.book(x, 4, 0, 0, 5, 10), GroupSeats.SHUT);
        check.due("book(4, 0) of 0, 11, 5", Hall.book(x, 4, 0, 0, 11, 5), GroupSeats.NO_ROW);
        check.due("about(0, 1): each held row 0 alone", x.about(0, 1), 2);
        check.due("told(2)", x.told(2), 1);
    }

    private static void givesBack(Check check) {
        check.sentence("A PARTY that FAILS gives back what it took, ROW by ROW, the innermost first");
        int[][] lists = {{0, 1, 2}, {0, 1, 2, 10}, {2, 1, 0, 7}, {0, 0, 1, 1, 2, 2}};
        for (int[] list : lists) {
            GroupSeats x = Hall.of(4, 3, 2);
            Hall.book(x, 1, 0, 0);
            Hall.book(x, 2, 0, 1);
            Hall.book(x, 1, 0, 2);
            x.strict(1, true);
            check.holds("book(60, 0) fails", Hall.book(x, 60, 0, list) < 0);
            check.dueSeats(x, 0, "0...");
            check.dueSeats(x, 1, "11.");
            check.dueSeats(x, 2, "2.");
            check.due("told(0)", x.told(0), 3);
            check.due("book(5, 0): all are free for the next", Hall.book(x, 5, 0, 0, 1, 2), 3);
        }
    }

    private static void oneBackMore(Check check) {
        check.sentence("each ROW that gives a SEAT back so has one BACK more");
        GroupSeats x = Hall.of(4, 1, 2);
        Hall.book(x, 8, 0, 0, 1, 2);
        for (int row = 0; row < 3; row++) {
            check.due("about(" + row + ", 2)", x.about(row, 2), 1);
        }
        Hall.book(x, 5, 0, 0, 8);
        check.due("about(0, 2): by SHUT too", x.about(0, 2), 2);
        Hall.book(x, 5, 0, 0, 10);
        check.due("about(0, 2): by NO_ROW too", x.about(0, 2), 3);
        Hall.book(x, 6, 0, 0, 1, 2);
        check.due("about(0, 2): not when it is DONE", x.about(0, 2), 3);
        x.cancel(0);
        check.due("about(0, 2): not by cancel()", x.about(0, 2), 3);
        check.due("about(1, 2)", x.about(1, 2), 1);
    }

    private static void noBackWithoutASeat(Check check) {
        check.sentence("each ROW that gives a SEAT back");
        GroupSeats x = Hall.of(2, 1, 1);
        Hall.book(x, 2, 0, 0);
        Hall.book(x, 3, 0, 0, 1, 0, 2);
        check.dueAbout(x, 0, 0, 3, 0, 2);
        check.dueAbout(x, 1, 1, 1, 1, 1);
        check.dueAbout(x, 2, 1, 1, 1, 1);
    }

    private static void onceForEachTime(Check check) {
        check.sentence("(once for each time it was held)");
        GroupSeats x = Hall.withRow("..#...#");
        x.strict(0, true);
        x.open(1, 1);
        int held = x.about(0, 1);
        check.due("book(7, 0) of 0, 1, 0, 0", Hall.book(x, 7, 0, 0, 1, 0, 0), GroupSeats.SHORT);
        check.due("about(0, 1)", x.about(0, 1), held + 3);
        check.due("about(0, 2): two times with seats, one without", x.about(0, 2), 2);
        check.due("about(1, 2)", x.about(1, 2), 1);
        GroupSeats six = Hall.withRow(".#.#.#.#.#.");
        six.strict(0, true);
        check.due("book(7, 0) of six times 0", Hall.book(six, 7, 0, 0, 0, 0, 0, 0, 0), GroupSeats.SHORT);
        check.due("about(0, 2)", six.about(0, 2), 6);
    }

    private static void keepsWithASeatAtLeast(Check check) {
        check.sentence("But a PARTY of MODE 1 that has a SEAT at least does not fail by that: it keeps what it has, and is DONE");
        int[][] lists = {{0}, {0, 5}, {0, 10}, {0, 0, 11, 5}};
        for (int[] list : lists) {
            GroupSeats x = Hall.of(1);
            check.due("book(2, 1), one seat", Hall.book(x, 2, 1, list), 0);
            check.dueSeats(x, 0, "0");
            check.due("about(0, 2)", x.about(0, 2), 0);
            check.dueTold(x, 1, 0, Math.max(1, list.length - 2), 0, 0, 1);
        }
        GroupSeats x = Hall.of(2, 2);
        check.due("book(60, 1) of 0, 1", Hall.book(x, 60, 1, 0, 1), 0);
        check.due("has(0, 1)", x.has(0, 1), 2);
        check.due("book(60, 0) of 0, 1: of MODE 1 alone", Hall.book(x, 60, 0, 0, 1), GroupSeats.SHORT);
    }

    private static void failsWithoutASeat(Check check) {
        check.sentence("that has a SEAT at least");
        GroupSeats x = Hall.of(1);
        Hall.book(x, 1, 0, 0);
        check.due("book(1, 1) of 0, full", Hall.book(x, 1, 1, 0), GroupSeats.SHORT);
        check.due("book(1, 1) of 0, 5", Hall.book(x, 1, 1, 0, 5), GroupSeats.SHUT);
        check.due("book(1, 1) of 0, 10", Hall.book(x, 1, 1, 0, 10), GroupSeats.NO_ROW);
        check.due("book(60, 1) of 5", Hall.book(x, 60, 1, 5), GroupSeats.SHUT);
        check.due("book(60, 1) of 11", Hall.book(x, 60, 1, 11), GroupSeats.NO_ROW);
        check.dueTold(x, 1, 0, 1, 5, 0, 1);
    }

    private static void numberedFromZero(Check check) {
        check.sentence("DONE it is a BOOKING: numbered from 0 on");
        GroupSeats x = Hall.of(2);
        check.due("book(1, 0)", Hall.book(x, 1, 0, 0), 0);
        check.due("book(2, 0) fails", Hall.book(x, 2, 0, 0), GroupSeats.SHORT);
        check.due("book(2, 1)", Hall.book(x, 2, 1, 0), 1);
        x.cancel(0);
        check.due("book(1, 2): 0 is not given again", Hall.book(x, 1, 2, 0), 2);
        check.due("book(1, 2) waits", Hall.book(x, 1, 2, 0), GroupSeats.WAITS);
        x.cancel(1);
        check.dueSeats(x, 0, "23");
    }

    private static void fortyAtMost(Check check) {
        check.sentence("40 at most in all");
        GroupSeats x = Hall.withBookings(39);
        check.due("book(1, 0), the fortieth", Hall.book(x, 1, 0, 1), 39);
        x.cancel(0);
        x.cancel(39);
        check.due("book(1, 0), one more", Hall.book(x, 1, 0, 0), GroupSeats.ROOM);
        check.due("told(0)", x.told(0), 40);
    }
}
