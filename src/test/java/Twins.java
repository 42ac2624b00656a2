/** Shows all that an object has in it, so that two with the same calls behind them can be compared. */
final class Twins {
    private Twins() {
    }

    /** What can be asked for without a change. */
    static String view(GroupSeats x) {
        StringBuilder all = new StringBuilder();
        for (int what = 0; what < 6; what++) {
            all.append(x.told(what)).append(' ');
        }
        for (int k = 0; k < 8; k++) {
            all.append(x.waiting(k)).append(' ');
        }
        for (int row = 0; row < 10; row++) {
            if (x.about(row, 3) > 0) {
                all.append("| row ").append(row).append(' ').append(Hall.seats(x, row)).append(" held ")
                        .append(x.about(row, 1)).append(" BACK ").append(x.about(row, 2)).append(' ');
            }
        }
        return all.toString();
    }

    /**
     * What shows only by further calls: which rows are STRICT, THE LIST (its order by a small party,
     * its end by a large one), and the LISTS of those waiting.
     */
    static String aftermath(GroupSeats x, int n) {
        StringBuilder all = new StringBuilder();
        for (int row = 0; row < 10; row++) {
            all.append(x.strict(row, false)).append(' ');
        }
        all.append("| book ").append(x.book(n, 0)).append(" | list ").append(x.list(0)).append(" | cancel ");
        for (int booking = 0; booking < 4; booking++) {
            all.append(x.cancel(booking)).append(' ');
        }
        all.append("| open ");
        for (int row = 0; row < 10; row++) {
            x.shut(row);
            all.append(x.open(row, 6)).append(' ');
        }
        return all.append("| ").append(view(x)).toString();
    }
}
