/** Short ways to bring an object into the state that a test begins with. */
final class Hall {
    /** Numbers that are wrong for every parameter, whatever its range. */
    static final int[] WILD = {-1, -2, -8, 61, 100, 1 << 20, Integer.MAX_VALUE, Integer.MIN_VALUE};

    private Hall() {
    }

    /** Opens rows 0, 1, .. with so many seats each. */
    static GroupSeats of(int... seats) {
        GroupSeats x = new GroupSeats();
        for (int row = 0; row < seats.length; row++) {
            x.open(row, seats[row]);
        }
        return x;
    }

    /** A party goes through a list of its own. */
    static int book(GroupSeats x, int n, int mode, int... numbers) {
        for (int number : numbers) {
            x.list(number);
        }
        return x.book(n, mode);
    }

    /** Makes so many bookings of one seat in rows 0 and 1, which have 20 each. */
    static GroupSeats withBookings(int count) {
        GroupSeats x = of(20, 20);
        for (int i = 0; i < count; i++) {
            book(x, 1, 0, 0, 1);
        }
        return x;
    }
}
