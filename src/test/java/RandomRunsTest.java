import java.util.Random;

/** Runs of 512 calls on GroupSeats and on Model; the seed is fixed, so the runs are always the same. */
final class RandomRunsTest {
    private static final int RUNS = 3000;
    private static final int CALLS = 512;
    private static final int[] ODD = {
        Integer.MIN_VALUE, -9, -2, -1, 0, 10, 12, 20, 21, 40, 60, 61, 1000, Integer.MAX_VALUE};

    private final Check check = new Check("random runs");
    private final Random random;
    private final int rowsInUse;
    private final int largestParty;
    private final boolean longLists;
    private final GroupSeats real = new GroupSeats();
    private final Model model = new Model();

    /** Runs differ in how full the hall gets, so that each kind of answer is common in some. */
    private RandomRunsTest(int run) {
        random = new Random(run);
        rowsInUse = 1 + random.nextInt(10);
        largestParty = new int[] {3, 8, 20, 60}[random.nextInt(4)];
        longLists = random.nextBoolean();
    }

    public static void main(String[] args) {
        long[] seen = new long[4];
        for (int run = 0; run < RUNS; run++) {
            new RandomRunsTest(run).go(run, seen);
        }
        Check reach = new Check("random runs");
        reach.holds("a run got to 40 bookings", seen[0] == 40);
        reach.holds("a run had 8 waiting", seen[1] == 8);
        reach.holds("a run held 6 rows at a time", seen[2] == 6);
        reach.holds("many tries were DONE", seen[3] > 1000);
        reach.end();
    }

    private void go(int run, long[] seen) {
        for (int call = 0; call < CALLS; call++) {
            step("run " + run + ", call " + call + ": ", seen);
        }
        for (int what = 0; what < 3; what++) {
            seen[what] = Math.max(seen[what], real.told(what));
        }
        if (!compareAll(run)) {
            check.end();
        }
    }

    private int odd(int usual) {
        return random.nextInt(40) == 0 ? ODD[random.nextInt(ODD.length)] : usual;
    }

    private int row() {
        return odd(random.nextInt(rowsInUse));
    }

    private int booking() {
        return odd(random.nextInt(Math.max(1, real.told(0)) + 1));
    }

    private void step(String at, long[] seen) {
        switch (random.nextInt(16)) {
            case 0, 1 -> open(at, row(), odd(1 + random.nextInt(20)), seen);
            case 2 -> shut(at, row());
            case 3 -> strict(at, row(), random.nextBoolean());
            case 4, 5, 6, 7 -> list(at);
            case 8, 9, 10 -> book(at, odd(1 + random.nextInt(largestParty)), odd(random.nextInt(3)));
            case 11, 12 -> cancel(at, booking(), seen);
            case 13 -> leave(at, odd(random.nextInt(60)));
            case 14 -> ask(at);
            default -> askOfPlaces(at);
        }
    }

    private void open(String at, int row, int seats, long[] seen) {
        int got = real.open(row, seats);
        seen[3] += Math.max(0, got);
        check.due(at + "open(" + row + ", " + seats + ")", got, model.open(row, seats));
    }

    private void shut(String at, int row) {
        check.due(at + "shut(" + row + ")", real.shut(row), model.shut(row));
    }

    private void strict(String at, int row, boolean on) {
        check.due(at + "strict(" + row + ", " + on + ")", real.strict(row, on), model.strict(row, on));
    }

    private void list(String at) {
        int more = longLists ? 1 + random.nextInt(4) : 1;
        for (int i = 0; i < more; i++) {
            int number = random.nextInt(25) == 0 ? 10 + random.nextInt(2) : row();
            check.due(at + "list(" + number + ")", real.list(number), model.list(number));
        }
    }

    private void book(String at, int n, int mode) {
        check.due(at + "book(" + n + ", " + mode + ")", real.book(n, mode), model.book(n, mode));
    }

    private void cancel(String at, int booking, long[] seen) {
        int got = real.cancel(booking);
        seen[3] += Math.max(0, got);
        check.due(at + "cancel(" + booking + ")", got, model.cancel(booking));
    }

    private void leave(String at, int k) {
        check.due(at + "leave(" + k + ")", real.leave(k), model.leave(k));
    }

    private void ask(String at) {
        int row = row();
        int what = odd(random.nextInt(6));
        check.due(at + "about(" + row + ", " + what + ")", real.about(row, what), model.about(row, what));
        check.due(at + "told(" + what + ")", real.told(what), model.told(what));
    }

    private void askOfPlaces(String at) {
        int row = row();
        int i = odd(random.nextInt(22));
        int booking = booking();
        check.due(at + "seat(" + row + ", " + i + ")", real.seat(row, i), model.seat(row, i));
        check.due(at + "has(" + booking + ", " + row + ")", real.has(booking, row), model.has(booking, row));
        check.due(at + "waiting(" + i + ")", real.waiting(i), model.waiting(i));
    }

    /** Looks at the whole state once, and answers whether the run was without a wrong answer. */
    private boolean compareAll(int run) {
        String at = "end of run " + run + ": ";
        for (int what = -1; what < 7; what++) {
            check.due(at + "told(" + what + ")", real.told(what), model.told(what));
        }
        for (int k = -1; k < 10; k++) {
            check.due(at + "waiting(" + k + ")", real.waiting(k), model.waiting(k));
        }
        for (int row = -1; row < 12; row++) {
            for (int i = -1; i < 22; i++) {
                check.due(at + "seat(" + row + ", " + i + ")", real.seat(row, i), model.seat(row, i));
            }
            for (int what = -1; what < 5; what++) {
                check.due(at + "about(" + row + ", " + what + ")", real.about(row, what), model.about(row, what));
            }
            for (int booking = -1; booking < 42; booking++) {
                check.due(at + "has(" + booking + ", " + row + ")", real.has(booking, row), model.has(booking, row));
            }
        }
        return check.isRight();
    }
}
