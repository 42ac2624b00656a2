/**
 * Short ways to bring an object into the state that a test begins with, and to look at it.
 * A test asks no object for more than 512 calls: what later ones answer is free.
 */
final class Hall {
    private Hall() {
    }

    /** Opens rows 0, 1, .. with so many seats each. */
    static GroupSeats of(int... seats) {
        GroupSeats x = new GroupSeats();
        for (int row = 0; row < seats.length; row++) {
            x.open(row, seats[row]);
        }
        return x;
    }

    /** A party goes through a list of its own. */
    static int book(GroupSeats x, int n, int mode, int... numbers) {
        for (int number : numbers) {
            x.list(number);
        }
        return x.book(n, mode);
    }

    /** Opens row 0 with free seats where a '.' stands, and gives each stretch of '#' to a booking. */
    static GroupSeats withRow(String pattern) {
        GroupSeats x = of(pattern.length());
        for (String stretch : pattern.split("(?<=#)(?=\\.)|(?<=\\.)(?=#)")) {
            book(x, stretch.length(), 0, 0);
        }
        int booking = 0;
        for (String stretch : pattern.split("(?<=#)(?=\\.)|(?<=\\.)(?=#)")) {
            if (stretch.startsWith(".")) {
                x.cancel(booking);
            }
            booking++;
        }
        return x;
    }

    /** Makes so many bookings of one seat in rows 0 and 1, which have 20 each. */
    static GroupSeats withBookings(int count) {
        GroupSeats x = of(20, 20);
        for (int i = 0; i < count; i++) {
            book(x, 1, 0, i % 2);
        }
        return x;
    }

    /** Row 0 has one seat, and parties of 2, 3, .. wait for it. */
    static GroupSeats withWaiting(int count) {
        GroupSeats x = of(1);
        for (int i = 0; i < count; i++) {
            book(x, i + 2, 2, 0);
        }
        return x;
    }

    /** Numbers that are not from the least to the greatest, some of which a narrow type would let in. */
    static int[] outside(int least, int greatest) {
        return new int[] {
            least - 1, least - 2, least - 8, least - 256, least - 65536, Integer.MIN_VALUE, Integer.MIN_VALUE + least,
            greatest + 1, greatest + 2, least + 256, greatest + 256, greatest + 65536, Integer.MAX_VALUE};
    }

    /** The seats of a row: a digit or letter for a booking, '.' for a free seat. */
    static String seats(GroupSeats x, int row) {
        StringBuilder all = new StringBuilder();
        for (int i = 0; i < 21; i++) {
            int of = x.seat(row, i);
            if (of == GroupSeats.STATE) {
                break;
            }
            all.append(of == GroupSeats.NONE ? '.' : Character.forDigit(of, 36));
        }
        return all.toString();
    }

    /** The seats of row 0 as one booking sees them: '*' its own, '#' another's, '.' free. */
    static String seatsFor(GroupSeats x, int booking) {
        StringBuilder all = new StringBuilder();
        for (int i = 0; i < x.about(0, 3); i++) {
            int of = x.seat(0, i);
            all.append(of == GroupSeats.NONE ? '.' : of == booking ? '*' : '#');
        }
        return all.toString();
    }
}
