/** Compares answers with those that are due, and ends a test with exit code 1 if one differs. */
final class Check {
    private final String about;
    private String sentence = "";
    private int asked = 0;
    private int wrong = 0;

    Check(String about) {
        this.about = about;
    }

    /** Names the words of the document by which the next answers are due. */
    void sentence(String words) {
        sentence = " \"" + words + "\"";
    }

    /** Names words of the document, and which of the cases that they hold for is looked at. */
    void sentence(String words, String which) {
        sentence = " \"" + words + "\" (" + which + ")";
    }

    void due(String call, long got, long want) {
        asked++;
        if (got != want) {
            tell(call + " answered " + got + ", due is " + want);
        }
    }

    void holds(String what, boolean is) {
        asked++;
        if (!is) {
            tell("not so: " + what);
        }
    }

    private void tell(String what) {
        wrong++;
        System.out.println(about + sentence + ": " + what);
    }

    void dueSame(String what, String got, String want) {
        holds(what + " is " + want + " (it is " + got + ")", got.equals(want));
    }

    /** Asks for all seats of a row at once: a digit or letter for a booking, '.' for a free seat. */
    void dueSeats(GroupSeats x, int row, String want) {
        dueSame("row " + row, Hall.seats(x, row), want);
    }

    /** Asks for everything that told() tells, in its order. */
    void dueTold(GroupSeats x, int... want) {
        for (int what = 0; what < want.length; what++) {
            due("told(" + what + ")", x.told(what), want[what]);
        }
    }

    /** Asks for everything that about() tells of a row, in its order. */
    void dueAbout(GroupSeats x, int row, int... want) {
        for (int what = 0; what < want.length; what++) {
            due("about(" + row + ", " + what + ")", x.about(row, what), want[what]);
        }
    }

    /** Asks for all that wait: how many each is, and that nobody stands behind them. */
    void dueWaiting(GroupSeats x, int... want) {
        due("told(1)", x.told(1), want.length);
        for (int k = 0; k < want.length; k++) {
            due("waiting(" + k + ")", x.waiting(k), want[k]);
        }
        due("waiting(" + want.length + ")", x.waiting(want.length), GroupSeats.NONE);
    }

    boolean isRight() {
        return wrong == 0;
    }

    void end() {
        System.out.println(about + ": " + asked + " asked, " + wrong + " wrong");
        if (wrong != 0) {
            System.exit(1);
        }
    }
}
