/** "An object is used for at most 512 calls after it has been made": all of them, and counts as large as they get. */
final class LongLifeTest {
    private static final int CALLS = 512;

    public static void main(String[] args) {
        Check check = new Check("long life");
        check.sentence("An object is used for at most 512 calls after it has been made");
        lastCallAnswers(check);
        countsOfTries(check);
        countsOfFailures(check);
        strictAgainAndAgain(check);
        check.end();
    }

    private static void lastCallAnswers(Check check) {
        GroupSeats x = Hall.of(20);
        for (int call = 2; call < CALLS - 1; call++) {
            x.seat(0, call);
        }
        check.due("list(0), call 511", x.list(0), 1);
        check.due("book(20, 0), call 512", x.book(20, 0), 0);
    }

    /** Eight that wait, each with six rows, tried by every open() of a row that helps none of them. */
    private static void countsOfTries(Check check) {
        GroupSeats x = Hall.of(1);
        for (int i = 0; i < 8; i++) {
            Hall.book(x, 60, 2, 0, 0, 0, 0, 0, 0);
        }
        int calls = 1 + 8 * 7;
        int opened = 0;
        for (; calls + 2 <= CALLS - 4; calls += 2) {
            x.open(9, 20);
            x.shut(9);
            opened++;
        }
        check.due("about(0, 1)", x.about(0, 1), 8 * 6 * (opened + 1));
        check.due("about(0, 2)", x.about(0, 2), 8 * (opened + 1));
        check.due("told(3)", x.told(3), 8 * (opened + 1));
        check.due("told(1)", x.told(1), 8);
    }

    private static void countsOfFailures(Check check) {
        GroupSeats x = Hall.of(1);
        for (int i = 1; i <= 254; i++) {
            check.due("book(2, 0), the " + i + "th", Hall.book(x, 2, 0, 0), GroupSeats.SHORT);
        }
        check.due("told(3)", x.told(3), 254);
        check.due("about(0, 2)", x.about(0, 2), 254);
        check.due("told(4)", x.told(4), 0);
    }

    private static void strictAgainAndAgain(Check check) {
        GroupSeats x = Hall.of(1);
        for (int i = 0; i < CALLS - 1; i++) {
            check.due("strict(0, ..)", x.strict(0, i % 2 == 0), i % 2);
        }
    }
}
