/** The sentences of "Terms" about a PARTY that goes through its LIST and TAKES seats. */
final class TermsTakesTest {
    public static void main(String[] args) {
        Check check = new Check("terms, takes");
        eachWithinTheOneBefore(check);
        wantsYet(check);
        leastNumbers(check);
        wAtMost(check);
        firstStretchLongEnough(check);
        itsFirst(check);
        longestElse(check);
        ofSeveralTheFirst(check);
        strictAndHeldAgain(check);
        done(check);
        noRowFurtherOn(check);
        check.end();
    }

    /** Lets a party of n take seats in row 0 as far as there are some, and tells which. */
    private static void taken(Check check, String pattern, boolean strict, int n, String want) {
        GroupSeats x = Hall.withRow(pattern);
        x.strict(0, strict);
        int booking = Hall.book(x, n, 1, 0);
        check.dueSame("row " + pattern + " after book(" + n + ", 1)", Hall.seatsFor(x, booking), want);
    }

    private static void eachWithinTheOneBefore(Check check) {
        check.sentence("the first ROW is held, the next one within it, and so on");
        int[] rows = {5, 4, 3, 2, 1, 0};
        for (int length = 1; length <= 6; length++) {
            GroupSeats x = Hall.of(1, 1, 1, 1, 1, 1);
            for (int i = 0; i < length; i++) {
                x.list(rows[i]);
            }
            check.due("book(" + length + ", 0)", x.book(length, 0), 0);
            check.due("told(2)", x.told(2), length);
            for (int i = 0; i < 6; i++) {
                check.due("about(" + rows[i] + ", 1)", x.about(rows[i], 1), i < length ? 1 : 0);
            }
        }
    }

    private static void wantsYet(Check check) {
        check.sentence("w being how many SEATS it wants yet");
        GroupSeats x = Hall.of(3, 3, 3);
        check.due("book(7, 0) of 2, 0, 1", Hall.book(x, 7, 0, 2, 0, 1), 0);
        check.dueSeats(x, 2, "000");
        check.dueSeats(x, 0, "000");
        check.dueSeats(x, 1, "0..");
        GroupSeats strict = Hall.withRow(".#...");
        strict.strict(0, true);
        strict.open(1, 2);
        check.due("book(3, 0) of 1, 0", Hall.book(strict, 3, 0, 1, 0), 3);
        check.dueSeats(strict, 0, "31...");
    }

    private static void leastNumbers(Check check) {
        check.sentence("the free SEATS with the least numbers");
        taken(check, ".#..#.", false, 1, "*#..#.");
        taken(check, ".#..#.", false, 2, "*#*.#.");
        taken(check, ".#..#.", false, 3, "*#**#.");
        taken(check, ".#..#.", false, 4, "*#**#*");
        taken(check, "#.#...", false, 2, "#*#*..");
        taken(check, "###..", false, 1, "###*.");
        taken(check, "....................", false, 19, "*******************.");
    }

    private static void wAtMost(Check check) {
        check.sentence("w at most");
        taken(check, ".#..#.", false, 5, "*#**#*");
        taken(check, ".#..#.", false, 60, "*#**#*");
        taken(check, ".", false, 1, "*");
        taken(check, ".", false, 2, "*");
        taken(check, "....................", false, 20, "********************");
        taken(check, "##", false, 1, "##");
    }

    private static void firstStretchLongEnough(Check check) {
        check.sentence("in a STRICT one the first stretch of free SEATS side by side that is w long");
        taken(check, ".#..#...#....", true, 1, "*#..#...#....");
        taken(check, ".#..#...#....", true, 2, ".#**#...#....");
        taken(check, ".#..#...#....", true, 3, ".#..#***#....");
        taken(check, ".#..#...#....", true, 4, ".#..#...#****");
        taken(check, "..#..#..", true, 2, "**#..#..");
        taken(check, "##.#", true, 1, "##*#");
        taken(check, "##..", true, 2, "##**");
        taken(check, "....................", true, 20, "********************");
    }

    private static void itsFirst(Check check) {
        check.sentence("its first w");
        taken(check, "#....#..", true, 2, "#**..#..");
        taken(check, ".#.....#...", true, 3, ".#***..#...");
        taken(check, "...", true, 1, "*..");
        taken(check, "....................", true, 19, "*******************.");
    }

    private static void longestElse(Check check) {
        check.sentence("without such a one the longest stretch");
        taken(check, ".#..#...", true, 4, ".#..#***");
        taken(check, ".#...#..", true, 4, ".#***#..");
        taken(check, "...#..#.", true, 4, "***#..#.");
        taken(check, ".#..#...", true, 60, ".#..#***");
        taken(check, "....................", true, 21, "********************");
        taken(check, "###", true, 1, "###");
        taken(check, "##.", true, 2, "##*");
    }

    private static void ofSeveralTheFirst(Check check) {
        check.sentence("(of several the first)");
        taken(check, ".#..#..#.", true, 3, ".#**#..#.");
        taken(check, ".#.#.", true, 2, "*#.#.");
        taken(check, "..#...#...#...", true, 5, "..#***#...#...");
    }

    private static void strictAndHeldAgain(Check check) {
        check.sentence("in a STRICT one the first stretch of free SEATS side by side that is w long", "a ROW held again");
        GroupSeats x = Hall.withRow("..#...#.");
        x.strict(0, true);
        check.due("book(5, 0) of 0, 0", Hall.book(x, 5, 0, 0, 0), 5);
        check.dueSame("row 0", Hall.seatsFor(x, 5), "**#***#.");
        GroupSeats ones = Hall.withRow(".#.#.#.#.#.#.");
        ones.strict(0, true);
        check.due("book(7, 1) of six times 0", Hall.book(ones, 7, 1, 0, 0, 0, 0, 0, 0), 13);
        check.dueSame("row 0", Hall.seatsFor(ones, 13), "*#*#*#*#*#*#.");
    }

    private static void done(Check check) {
        check.sentence("With all n of them it is DONE");
        GroupSeats x = Hall.of(20, 20, 20);
        check.due("book(1, 0) of 2", Hall.book(x, 1, 0, 2), 0);
        x.cancel(0);
        check.due("book(60, 0) of 0, 1, 2", Hall.book(x, 60, 0, 0, 1, 2), 1);
        check.due("about(2, 0): the last seat is its", x.about(2, 0), 0);
        check.due("told(3)", x.told(3), 0);
    }

    private static void noRowFurtherOn(Check check) {
        check.sentence("no ROW further on is held");
        for (int next : new int[] {1, 0, 5, 10, 11}) {
            GroupSeats x = Hall.of(3, 3);
            check.due("book(3, 0) of 0, " + next, Hall.book(x, 3, 0, 0, next), 0);
            check.due("about(0, 1)", x.about(0, 1), 1);
            check.due("about(1, 1)", x.about(1, 1), 0);
            check.due("told(2)", x.told(2), 1);
        }
        GroupSeats x = Hall.of(1, 1, 1, 1, 1, 1);
        check.due("book(5, 2) of six", Hall.book(x, 5, 2, 0, 1, 2, 3, 4, 5), 0);
        check.due("about(5, 1)", x.about(5, 1), 0);
        check.due("told(2)", x.told(2), 5);
    }
}
