import java.util.Random;
import java.util.function.IntSupplier;

/**
 * Runs of 512 calls on GroupSeats and on Model; the seed is fixed, so the runs are always the same.
 * What a run needs to know for its next call it asks the model: the object has no call to spare.
 */
final class RandomRunsTest {
    private static final int RUNS = 3000;
    private static final int CALLS = 512;
    private static final int[] ODD = {
        Integer.MIN_VALUE, -9, -2, -1, 0, 10, 12, 20, 21, 40, 60, 61, 1000, Integer.MAX_VALUE};

    private final Check check = new Check("random runs");
    private final Random random;
    private final int rowsInUse;
    private final int largestParty;
    private final boolean longLists;
    private final int callsOfSteps;
    private final GroupSeats real = new GroupSeats();
    private final Model model = new Model();
    private int calls = 0;

    /**
     * Runs differ in how full the hall gets, so that each kind of answer is common in some, and in how
     * many calls are left at the end to look at the whole state.
     */
    private RandomRunsTest(int run) {
        random = new Random(run);
        rowsInUse = 1 + random.nextInt(10);
        largestParty = new int[] {3, 8, 20, 60}[random.nextInt(4)];
        longLists = random.nextBoolean();
        callsOfSteps = random.nextBoolean() ? CALLS : CALLS / 2;
    }

    public static void main(String[] args) {
        long[] seen = new long[4];
        for (int run = 0; run < RUNS; run++) {
            new RandomRunsTest(run).go(run, seen);
        }
        Check reach = new Check("random runs");
        reach.holds("a run got to 40 bookings", seen[0] == 40);
        reach.holds("a run had 8 waiting", seen[1] == 8);
        reach.holds("a run held 6 rows at a time", seen[2] == 6);
        reach.holds("many tries were DONE", seen[3] > 1000);
        reach.end();
    }

    private void go(int run, long[] seen) {
        while (calls < callsOfSteps) {
            step("run " + run + ", call " + calls + ": ", seen);
        }
        look("end of run " + run + ": ");
        for (int what = 0; what < 3; what++) {
            seen[what] = Math.max(seen[what], model.told(what));
        }
        if (!check.isRight()) {
            check.end();
        }
    }

    /** Compares two answers, unless the object has had all its calls. */
    private int same(String call, IntSupplier ofReal, IntSupplier ofModel) {
        if (calls == CALLS) {
            return 0;
        }
        calls++;
        int got = ofReal.getAsInt();
        check.due(call, got, ofModel.getAsInt());
        return got;
    }

    private int odd(int usual) {
        return random.nextInt(40) == 0 ? ODD[random.nextInt(ODD.length)] : usual;
    }

    private int row() {
        return odd(random.nextInt(rowsInUse));
    }

    private int booking() {
        return odd(random.nextInt(Math.max(1, model.told(0)) + 1));
    }

    private void step(String at, long[] seen) {
        switch (random.nextInt(16)) {
            case 0, 1 -> open(at, row(), odd(1 + random.nextInt(20)), seen);
            case 2 -> shut(at, row());
            case 3 -> strict(at, row(), random.nextBoolean());
            case 4, 5, 6, 7 -> list(at);
            case 8, 9, 10 -> book(at, odd(1 + random.nextInt(largestParty)), odd(random.nextInt(3)));
            case 11, 12 -> cancel(at, booking(), seen);
            case 13 -> leave(at, odd(random.nextInt(60)));
            case 14 -> {
                about(at, row(), odd(random.nextInt(4)));
                told(at, odd(random.nextInt(6)));
                waiting(at, odd(random.nextInt(9)));
            }
            default -> {
                seat(at, row(), odd(random.nextInt(21)));
                has(at, booking(), row());
            }
        }
    }

    private void open(String at, int row, int seats, long[] seen) {
        String call = at + "open(" + row + ", " + seats + ")";
        seen[3] += Math.max(0, same(call, () -> real.open(row, seats), () -> model.open(row, seats)));
    }

    private void shut(String at, int row) {
        same(at + "shut(" + row + ")", () -> real.shut(row), () -> model.shut(row));
    }

    private void strict(String at, int row, boolean on) {
        same(at + "strict(" + row + ", " + on + ")", () -> real.strict(row, on), () -> model.strict(row, on));
    }

    private void list(String at) {
        int more = longLists ? 1 + random.nextInt(4) : 1;
        for (int i = 0; i < more; i++) {
            int number = random.nextInt(25) == 0 ? 10 + random.nextInt(2) : row();
            same(at + "list(" + number + ")", () -> real.list(number), () -> model.list(number));
        }
    }

    private void book(String at, int n, int mode) {
        same(at + "book(" + n + ", " + mode + ")", () -> real.book(n, mode), () -> model.book(n, mode));
    }

    private void cancel(String at, int booking, long[] seen) {
        String call = at + "cancel(" + booking + ")";
        seen[3] += Math.max(0, same(call, () -> real.cancel(booking), () -> model.cancel(booking)));
    }

    private void leave(String at, int k) {
        same(at + "leave(" + k + ")", () -> real.leave(k), () -> model.leave(k));
    }

    private void about(String at, int row, int what) {
        same(at + "about(" + row + ", " + what + ")", () -> real.about(row, what), () -> model.about(row, what));
    }

    private void told(String at, int what) {
        same(at + "told(" + what + ")", () -> real.told(what), () -> model.told(what));
    }

    private void seat(String at, int row, int i) {
        same(at + "seat(" + row + ", " + i + ")", () -> real.seat(row, i), () -> model.seat(row, i));
    }

    private void has(String at, int booking, int row) {
        same(at + "has(" + booking + ", " + row + ")", () -> real.has(booking, row), () -> model.has(booking, row));
    }

    private void waiting(String at, int k) {
        same(at + "waiting(" + k + ")", () -> real.waiting(k), () -> model.waiting(k));
    }

    /** Looks at the state with the calls that are left, at what is not told of in rows first. */
    private void look(String at) {
        for (int what = 0; what < 6; what++) {
            told(at, what);
        }
        for (int k = 0; k < 9; k++) {
            waiting(at, k);
        }
        for (int row = 0; row < rowsInUse; row++) {
            for (int what = 0; what < 4; what++) {
                about(at, row, what);
            }
        }
        for (int row = 0; row < rowsInUse; row++) {
            for (int i = 0; i < 21; i++) {
                seat(at, row, i);
            }
        }
    }
}
