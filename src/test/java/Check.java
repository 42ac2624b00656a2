/** Compares answers with those that are due, and ends a test with exit code 1 if one differs. */
final class Check {
    private final String about;
    private int asked = 0;
    private int wrong = 0;

    Check(String about) {
        this.about = about;
    }

    void due(String call, long got, long want) {
        asked++;
        if (got != want) {
            wrong++;
            System.out.println(about + ": " + call + " answered " + got + ", due is " + want);
        }
    }

    void holds(String what, boolean is) {
        asked++;
        if (!is) {
            wrong++;
            System.out.println(about + ": not so: " + what);
        }
    }

    /** Asks for all seats of a row at once: a digit or letter for a booking, '.' for a free seat. */
    void dueSeats(GroupSeats x, int row, String want) {
        StringBuilder got = new StringBuilder();
        for (int i = 0; i < 21; i++) {
            int of = x.seat(row, i);
            if (of == GroupSeats.STATE) {
                break;
            }
            got.append(of == GroupSeats.NONE ? '.' : Character.forDigit(of, 36));
        }
        holds("row " + row + " is " + want + " (it is " + got + ")", got.toString().equals(want));
    }

    /** Asks for everything that told() tells, in its order. */
    void dueTold(GroupSeats x, int... want) {
        for (int what = 0; what < want.length; what++) {
            due("told(" + what + ")", x.told(what), want[what]);
        }
    }

    boolean isRight() {
        return wrong == 0;
    }

    void end() {
        System.out.println(about + ": " + asked + " asked, " + wrong + " wrong");
        if (wrong != 0) {
            System.exit(1);
        }
    }
}
