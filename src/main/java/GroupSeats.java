/**
 * Seats of a hall, booked row by row: a party holds each row of its list within the one before,
 * and gets all its seats, takes what there is, or waits until seats come free.
 */
public final class GroupSeats {
    public static final int OUTSIDE = -1, STATE = -2, ROOM = -3, SHORT = -4, SHUT = -5, NO_ROW = -6, WAITS = -7, NONE = -8;

    private static final int ROWS = 10;
    private static final int MOST_SEATS = 20;
    private static final int MOST_LISTED = 6;
    private static final int GREATEST_LISTED = 11;
    private static final int LARGEST_PARTY = 60;
    private static final int MOST_BOOKINGS = 40;
    private static final int MOST_WAITING = 8;

    private static final int MODE_SOME = 1;
    private static final int MODE_WAIT = 2;

    /** How a party's way ends well; it differs from every code by which one FAILS. */
    private static final int DONE = 0;

    private final Row[] rows = new Row[ROWS];
    private final boolean[] cancelled = new boolean[MOST_BOOKINGS];

    /** Those that wait stand first; the places behind them keep spare parties for use again. */
    private final Party[] queue = new Party[MOST_WAITING];

    /** The party that books next: THE LIST is its list. */
    private Party coming = new Party();

    private int bookings;
    private int waiters;
    private int mostHeld;
    private int failures;

    public GroupSeats() {
        for (int i = 0; i < ROWS; i++) {
            rows[i] = new Row();
        }
        for (int k = 0; k < MOST_WAITING; k++) {
            queue[k] = new Party();
        }
    }

    public int open(int row, int seats) {
        if (!isRow(row) || seats < 1 || seats > MOST_SEATS) {
            return OUTSIDE;
        }
        if (rows[row].isOpen()) {
            return STATE;
        }
        rows[row].begin(seats);
        return tryThoseWaiting();
    }

    public int shut(int row) {
        if (!isRow(row)) {
            return OUTSIDE;
        }
        Row shutting = rows[row];
        if (!shutting.isOpen() || shutting.seatsOf(NONE) < shutting.size) {
            return STATE;
        }
        int had = shutting.size;
        shutting.size = 0;
        return had;
    }

    public int strict(int row, boolean on) {
        if (!isRow(row)) {
            return OUTSIDE;
        }
        if (!rows[row].isOpen()) {
            return STATE;
        }
        boolean was = rows[row].sideBySide;
        rows[row].sideBySide = on;
        return was ? 1 : 0;
    }

    public int list(int row) {
        if (row < 0 || row > GREATEST_LISTED) {
            return OUTSIDE;
        }
        if (coming.listed >= MOST_LISTED) {
            return ROOM;
        }
        coming.numbers[coming.listed] = row;
        coming.listed++;
        return coming.listed;
    }

    public int book(int n, int mode) {
        if (n < 1 || n > LARGEST_PARTY || mode < 0 || mode > MODE_WAIT) {
            return OUTSIDE;
        }
        if (coming.listed == 0) {
            return STATE;
        }
        if (bookings >= MOST_BOOKINGS) {
            return ROOM;
        }
        coming.size = n;
        coming.mode = mode;
        int outcome = goThrough(coming);
        if (outcome == SHORT && mode == MODE_WAIT && waiters < MOST_WAITING) {
            queueUp();
            outcome = WAITS;
        }
        coming.listed = 0;
        return outcome;
    }

    public int cancel(int booking) {
        if (!isBooking(booking)) {
            return OUTSIDE;
        }
        if (cancelled[booking]) {
            return STATE;
        }
        cancelled[booking] = true;
        for (int i = 0; i < ROWS; i++) {
            rows[i].freeSeatsOf(booking);
        }
        return tryThoseWaiting();
    }

    public int leave(int k) {
        if (!isWaiting(k)) {
            return OUTSIDE;
        }
        Party gone = queue[k];
        waiters--;
        for (int i = k; i < waiters; i++) {
            queue[i] = queue[i + 1];
        }
        queue[waiters] = gone;
        return gone.size;
    }

    public int seat(int row, int i) {
        if (!isRow(row) || i < 0) {
            return OUTSIDE;
        }
        if (i >= rows[row].size) {
            return STATE;
        }
        return rows[row].owners[i];
    }

    public int has(int booking, int row) {
        if (!isBooking(booking) || !isRow(row)) {
            return OUTSIDE;
        }
        return rows[row].seatsOf(booking);
    }

    public int about(int row, int what) {
        if (!isRow(row) || what < 0 || what > 3) {
            return OUTSIDE;
        }
        Row asked = rows[row];
        if (!asked.isOpen()) {
            return STATE;
        }
        switch (what) {
            case 0: return asked.seatsOf(NONE);
            case 1: return asked.holds;
            case 2: return asked.backs;
            default: return asked.size;
        }
    }

    public int told(int what) {
        switch (what) {
            case 0: return bookings;
            case 1: return waiters;
            case 2: return mostHeld;
            case 3: return failures;
            case 4: return coming.listed;
            case 5: return openRows();
            default: return OUTSIDE;
        }
    }

    public int waiting(int k) {
        return isWaiting(k) ? queue[k].size : NONE;
    }

    private static boolean isRow(int row) {
        return row >= 0 && row < ROWS;
    }

    private boolean isBooking(int booking) {
        return booking >= 0 && booking < bookings;
    }

    private boolean isWaiting(int k) {
        return k >= 0 && k < waiters;
    }

    private int openRows() {
        int count = 0;
        for (int i = 0; i < ROWS; i++) {
            if (rows[i].isOpen()) {
                count++;
            }
        }
        return count;
    }

    /** The coming party waits behind the others; a spare one comes in its stead. */
    private void queueUp() {
        Party spare = queue[waiters];
        queue[waiters] = coming;
        waiters++;
        coming = spare;
    }

    /** Tries each that waits, once and in order; answers how many of them were DONE. */
    private int tryThoseWaiting() {
        int staying = 0;
        for (int k = 0; k < waiters; k++) {
            Party party = queue[k];
            // Room is asked for anew each time: the one before may have got the last booking.
            boolean served = bookings < MOST_BOOKINGS && goThrough(party) >= 0;
            if (!served) {
                queue[k] = queue[staying];
                queue[staying] = party;
                staying++;
            }
        }
        int done = waiters - staying;
        waiters = staying;
        return done;
    }

    /** Answers the party's booking, or by what it FAILED. */
    private int goThrough(Party party) {
        int outcome = goOn(party, 0, party.size);
        if (outcome != DONE) {
            failures++;
            return outcome;
        }
        int booking = bookings;
        bookings++;
        return booking;
    }

    /**
     * Holds the row at a place of the party's list, and within it those further on.
     * The list's length, 6 at most, keeps the depth low. Answers DONE or by what it FAILED.
     */
    private int goOn(Party party, int place, int wanted) {
        if (wanted <= 0) {
            return DONE;
        }
        int obstacle = obstacleAt(party, place);
        if (obstacle != DONE) {
            boolean keeps = party.mode == MODE_SOME && wanted < party.size;
            return keeps ? DONE : obstacle;
        }
        Row row = rows[party.numbers[place]];
        row.holds++;
        mostHeld = Math.max(mostHeld, place + 1);
        int taken = row.take(wanted, bookings);
        int outcome = goOn(party, place + 1, wanted - Integer.bitCount(taken));
        if (outcome != DONE) {
            row.giveBack(taken);
        }
        return outcome;
    }

    /** By what a party FAILS that gets to this place of its list; DONE, if a row can be held there. */
    private int obstacleAt(Party party, int place) {
        if (place >= party.listed) {
            return SHORT;
        }
        int number = party.numbers[place];
        if (!isRow(number)) {
            return NO_ROW;
        }
        return rows[number].isOpen() ? DONE : SHUT;
    }

    /** A party with a list of its own, so that it can wait with it. */
    private static final class Party {
        final int[] numbers = new int[MOST_LISTED];
        int listed;
        int size;
        int mode;
    }

    /** A row; sets of its seats are bits of an int, seat 0 the lowest one. */
    private static final class Row {
        /** The booking of each seat, NONE of a free one. */
        final int[] owners = new int[MOST_SEATS];

        /** How many seats there are; 0 while the row is not OPEN. */
        int size;
        boolean sideBySide;

        /** Kept when the row is opened anew: the document sets only BACK to 0 then. */
        int holds;
        int backs;

        boolean isOpen() {
            return size > 0;
        }

        void begin(int seats) {
            size = seats;
            sideBySide = false;
            backs = 0;
            for (int i = 0; i < MOST_SEATS; i++) {
                owners[i] = NONE;
            }
        }

        int seatsOf(int owner) {
            int count = 0;
            for (int i = 0; i < size; i++) {
                if (owners[i] == owner) {
                    count++;
                }
            }
            return count;
        }

        void freeSeatsOf(int booking) {
            for (int i = 0; i < size; i++) {
                if (owners[i] == booking) {
                    owners[i] = NONE;
                }
            }
        }

        /** Gives seats to a booking, as many as wanted at most; answers which. */
        int take(int wanted, int booking) {
            int first = sideBySide ? bestStretch(wanted) : 0;
            int taken = 0;
            int count = 0;
            for (int i = first; i < size && count < wanted; i++) {
                if (owners[i] == NONE) {
                    owners[i] = booking;
                    taken |= 1 << i;
                    count++;
                } else if (sideBySide) {
                    break;
                }
            }
            return taken;
        }

        /**
         * Where the first stretch of free seats begins that is long enough, else the longest one.
         * What a stretch has beyond the wanted seats does not make it better than an earlier one.
         */
        int bestStretch(int wanted) {
            int best = 0;
            int bestLength = 0;
            int length = 0;
            for (int i = 0; i < size && bestLength < wanted; i++) {
                length = owners[i] == NONE ? length + 1 : 0;
                if (length > bestLength) {
                    bestLength = length;
                    best = i + 1 - length;
                }
            }
            return best;
        }

        void giveBack(int taken) {
            if (taken == 0) {
                return;
            }
            backs++;
            for (int i = 0; i < size; i++) {
                if ((taken & (1 << i)) != 0) {
                    owners[i] = NONE;
                }
            }
        }
    }
}
