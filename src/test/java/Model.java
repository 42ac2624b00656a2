import java.util.ArrayDeque;
import java.util.ArrayList;
import java.util.Arrays;
import java.util.Deque;
import java.util.HashSet;
import java.util.List;
import java.util.Map;
import java.util.Set;
import java.util.TreeMap;

/**
 * The document a second time, written for plainness and with the whole Java library, to compare
 * GroupSeats with. It goes through a list by a stack where GroupSeats goes by recursion.
 */
final class Model {
    private static final int FREE = -8;

    private record Party(int n, int mode, List<Integer> numbers) {
    }

    private record Hold(int row, List<Integer> taken) {
    }

    private final Map<Integer, int[]> seatsOfOpenRow = new TreeMap<>();
    private final Set<Integer> strictRows = new HashSet<>();
    private final Map<Integer, Integer> holds = new TreeMap<>();
    private final Map<Integer, Integer> backs = new TreeMap<>();
    private final List<Integer> theList = new ArrayList<>();
    private final List<Boolean> live = new ArrayList<>();
    private List<Party> queue = new ArrayList<>();
    private int most = 0;
    private int failed = 0;

    private static boolean in(int number, int least, int greatest) {
        return least <= number && number <= greatest;
    }

    int open(int row, int seats) {
        if (!in(row, 0, 9) || !in(seats, 1, 20)) {
            return -1;
        }
        if (seatsOfOpenRow.containsKey(row)) {
            return -2;
        }
        int[] fresh = new int[seats];
        Arrays.fill(fresh, FREE);
        seatsOfOpenRow.put(row, fresh);
        strictRows.remove(row);
        backs.put(row, 0);
        return tryAll();
    }

    int shut(int row) {
        if (!in(row, 0, 9)) {
            return -1;
        }
        int[] seats = seatsOfOpenRow.get(row);
        if (seats == null || count(row, FREE) != seats.length) {
            return -2;
        }
        return seatsOfOpenRow.remove(row).length;
    }

    int strict(int row, boolean on) {
        if (!in(row, 0, 9)) {
            return -1;
        }
        if (!seatsOfOpenRow.containsKey(row)) {
            return -2;
        }
        boolean was = on ? !strictRows.add(row) : strictRows.remove(row);
        return was ? 1 : 0;
    }

    int list(int row) {
        if (!in(row, 0, 11)) {
            return -1;
        }
        if (theList.size() == 6) {
            return -3;
        }
        theList.add(row);
        return theList.size();
    }

    int book(int n, int mode) {
        if (!in(n, 1, 60) || !in(mode, 0, 2)) {
            return -1;
        }
        if (theList.isEmpty()) {
            return -2;
        }
        if (live.size() == 40) {
            return -3;
        }
        Party party = new Party(n, mode, List.copyOf(theList));
        theList.clear();
        int answer = attempt(party);
        if (answer == -4 && mode == 2 && queue.size() < 8) {
            queue.add(party);
            return -7;
        }
        return answer;
    }

    int cancel(int booking) {
        if (!in(booking, 0, live.size() - 1)) {
            return -1;
        }
        if (!live.get(booking)) {
            return -2;
        }
        live.set(booking, false);
        for (int[] seats : seatsOfOpenRow.values()) {
            for (int i = 0; i < seats.length; i++) {
                seats[i] = seats[i] == booking ? FREE : seats[i];
            }
        }
        return tryAll();
    }

    int leave(int k) {
        return in(k, 0, queue.size() - 1) ? queue.remove(k).n() : -1;
    }

    int seat(int row, int i) {
        if (!in(row, 0, 9) || i < 0) {
            return -1;
        }
        int[] seats = seatsOfOpenRow.get(row);
        return seats == null || i >= seats.length ? -2 : seats[i];
    }

    int has(int booking, int row) {
        if (!in(booking, 0, live.size() - 1) || !in(row, 0, 9)) {
            return -1;
        }
        return count(row, booking);
    }

    int about(int row, int what) {
        if (!in(row, 0, 9) || !in(what, 0, 3)) {
            return -1;
        }
        if (!seatsOfOpenRow.containsKey(row)) {
            return -2;
        }
        List<Integer> all = List.of(count(row, FREE), holds.getOrDefault(row, 0),
                backs.getOrDefault(row, 0), seatsOfOpenRow.get(row).length);
        return all.get(what);
    }

    int told(int what) {
        List<Integer> all = List.of(
                live.size(), queue.size(), most, failed, theList.size(), seatsOfOpenRow.size());
        return in(what, 0, 5) ? all.get(what) : -1;
    }

    int waiting(int k) {
        return in(k, 0, queue.size() - 1) ? queue.get(k).n() : -8;
    }

    private int count(int row, int owner) {
        int count = 0;
        for (int of : seatsOfOpenRow.getOrDefault(row, new int[0])) {
            count += of == owner ? 1 : 0;
        }
        return count;
    }

    private int tryAll() {
        List<Party> still = new ArrayList<>();
        int done = 0;
        for (Party party : queue) {
            if (live.size() < 40 && attempt(party) >= 0) {
                done++;
            } else {
                still.add(party);
            }
        }
        queue = still;
        return done;
    }

    private int attempt(Party party) {
        Deque<Hold> held = new ArrayDeque<>();
        int wants = party.n();
        int code = -4;
        for (int number : party.numbers()) {
            if (wants == 0) {
                break;
            }
            if (number >= 10 || !seatsOfOpenRow.containsKey(number)) {
                code = number >= 10 ? -6 : -5;
                break;
            }
            List<Integer> taken = choose(number, wants);
            for (int i : taken) {
                seatsOfOpenRow.get(number)[i] = live.size();
            }
            held.push(new Hold(number, taken));
            holds.merge(number, 1, Integer::sum);
            most = Math.max(most, held.size());
            wants -= taken.size();
        }
        boolean keeps = party.mode() == 1 && wants < party.n();
        if (wants == 0 || keeps) {
            live.add(true);
            return live.size() - 1;
        }
        failed++;
        while (!held.isEmpty()) {
            undo(held.pop());
        }
        return code;
    }

    private void undo(Hold hold) {
        if (!hold.taken().isEmpty()) {
            backs.merge(hold.row(), 1, Integer::sum);
        }
        for (int i : hold.taken()) {
            seatsOfOpenRow.get(hold.row())[i] = FREE;
        }
    }

    private List<Integer> choose(int row, int wants) {
        List<List<Integer>> stretches = stretches(seatsOfOpenRow.get(row));
        List<Integer> from = new ArrayList<>();
        if (!strictRows.contains(row)) {
            stretches.forEach(from::addAll);
        } else {
            int longest = stretches.stream().mapToInt(List::size).max().orElse(0);
            int enough = Math.min(longest, wants);
            from = stretches.stream().filter(s -> s.size() >= enough).findFirst().orElse(from);
        }
        return List.copyOf(from.subList(0, Math.min(wants, from.size())));
    }

    private static List<List<Integer>> stretches(int[] seats) {
        List<List<Integer>> all = new ArrayList<>();
        for (int i = 0; i < seats.length; i++) {
            if (seats[i] != FREE) {
                continue;
            }
            if (i == 0 || seats[i - 1] != FREE) {
                all.add(new ArrayList<>());
            }
            all.get(all.size() - 1).add(i);
        }
        return all;
    }
}
