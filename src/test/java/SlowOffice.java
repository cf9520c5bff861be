import java.util.ArrayList;
import java.util.Comparator;
import java.util.List;

/**
 * The document's words done as literally as can be, by trying all rows, all sets and all pairs:
 * what BeatPathOffice is held against. It counts anew from the ballots at every call.
 */
final class SlowOffice {
    private static final class Ballot {
        int ranking;
        int times;
    }

    private static final class Batch {
        int state = 0;
        final List<Ballot> ballots = new ArrayList<>();
    }

    private final int n;
    private final List<Integer> drawn = new ArrayList<>();
    private final List<Batch> batches = new ArrayList<>();
    private boolean sealed = false;

    SlowOffice(int n) {
        this.n = n < 1 || n > 8 ? 5 : n;
        for (int c = 0; c < this.n; c++) {
            drawn.add(c);
        }
    }

    void tie(int candidate, int place) {
        argument(candidate(candidate) && place >= 0 && place < n);
        state(!sealed && batches.isEmpty());
        drawn.remove(Integer.valueOf(candidate));
        drawn.add(place, candidate);
    }

    int drawn(int place) {
        return at(drawn, place);
    }

    int open() {
        state(!sealed && batches.size() < 12);
        batches.add(new Batch());
        return batches.size() - 1;
    }

    int ballot(int batch, int ranking, int times) {
        argument(batch(batch) && ranking(ranking) && times >= 1 && times <= 10000);
        List<Ballot> ballots = batches.get(batch).ballots;
        state(!sealed && batches.get(batch).state == 0 && ballots.size() < 6);
        Ballot ballot = new Ballot();
        ballot.ranking = ranking;
        ballot.times = times;
        ballots.add(ballot);
        return ballots.size() - 1;
    }

    void turn(int batch, int to) {
        argument(batch(batch) && to >= 0 && to <= 2);
        state(!sealed && batches.get(batch).state == to);
        batches.get(batch).state = to == 1 ? 2 : 1;
    }

    int correct(int batch, int ballot, int ranking) {
        argument(batch(batch) && ranking(ranking));
        Ballot corrected = at(batches.get(batch).ballots, ballot);
        state(!sealed && batches.get(batch).state != 0);
        int before = corrected.ranking;
        corrected.ranking = ranking;
        return before;
    }

    int state(int batch) {
        argument(batch(batch));
        return batches.get(batch).state;
    }

    int voters() {
        int sum = 0;
        for (Batch batch : batches) {
            for (Ballot ballot : batch.ballots) {
                sum += batch.state == 1 ? ballot.times : 0;
            }
        }
        return sum;
    }

    int prefer(int a, int b) {
        pair(a, b);
        int sum = 0;
        for (Batch batch : batches) {
            for (Ballot ballot : batch.ballots) {
                sum += batch.state == 1 && place(ballot.ranking, a) < place(ballot.ranking, b) ? ballot.times : 0;
            }
        }
        return sum;
    }

    int strength(int a, int b) {
        pair(a, b);
        int[][] direct = directs();
        int best = 0;
        for (List<Integer> row : ways(a, b, direct)) {
            best = Math.max(best, strong(row, direct));
        }
        return best;
    }

    int way(int a, int b) {
        pair(a, b);
        int[][] direct = directs();
        List<List<Integer>> ways = ways(a, b, direct);
        if (ways.isEmpty()) {
            return 0;
        }
        Comparator<List<Integer>> better = Comparator.comparing(row -> -strong(row, direct));
        ways.sort(better.thenComparing(List::size).thenComparing(SlowOffice::lexicographic));
        int word = 0;
        for (int i = 0; i < ways.get(0).size(); i++) {
            word += (ways.get(0).get(i) + 1) << (4 * i);
        }
        return word;
    }

    int cut(int a, int b) {
        pair(a, b);
        int[][] direct = directs();
        int least = strength(a, b);
        int set = 0;
        for (int c = 0; c < n; c++) {
            boolean in = c == a;
            for (List<Integer> row : c == a ? new ArrayList<List<Integer>>() : ways(a, c, direct)) {
                in |= strong(row, direct) > least;
            }
            set += in ? 1 << c : 0;
        }
        return set;
    }

    boolean proves(int a, int b, int s, int way, int set) {
        pair(a, b);
        int[][] direct = directs();
        boolean reached = s == 0 && way == 0;
        if (s > 0) {
            List<Integer> row = row(way);
            reached = row.size() >= 2 && row.get(0) == a && row.get(row.size() - 1) == b && strong(row, direct) >= s;
        }
        boolean held = (set & 0xffffffffL) < 1L << n && in(set, a) && !in(set, b);
        for (int x = 0; x < n; x++) {
            for (int y = 0; y < n; y++) {
                held &= !(in(set, x) && !in(set, y) && direct[x][y] > s);
            }
        }
        return reached && held;
    }

    int winner(int i) {
        List<Integer> winners = new ArrayList<>();
        for (int a = 0; a < n; a++) {
            boolean wins = true;
            for (int b = 0; b < n; b++) {
                wins &= a == b || strength(a, b) >= strength(b, a);
            }
            if (wins) {
                winners.add(a);
            }
        }
        return at(winners, i);
    }

    boolean locked(int a, int b) {
        pair(a, b);
        return locks()[a][b];
    }

    int order(int i) {
        boolean[][] locks = locks();
        List<Integer> left = new ArrayList<>(drawn);
        List<Integer> order = new ArrayList<>();
        while (!left.isEmpty()) {
            for (int c : left) {
                if (left.stream().noneMatch(x -> locks[x][c])) {
                    order.add(c);
                    left.remove(Integer.valueOf(c));
                    break;
                }
            }
        }
        return at(order, i);
    }

    int top(int i) {
        int[][] direct = directs();
        int least = (1 << n) - 1;
        for (int set = 1; set < 1 << n; set++) {
            boolean beats = true;
            for (int x = 0; x < n; x++) {
                for (int y = 0; y < n; y++) {
                    beats &= !in(set, x) || in(set, y) || direct[x][y] > 0;
                }
            }
            if (beats && Integer.bitCount(set) < Integer.bitCount(least)) {
                least = set;
            }
        }
        List<Integer> top = new ArrayList<>();
        for (int c = 0; c < n; c++) {
            if (in(least, c)) {
                top.add(c);
            }
        }
        return at(top, i);
    }

    int without(int batch, int what, int i) {
        argument(batch(batch) && what >= 0 && what <= 2);
        int before = batches.get(batch).state;
        batches.get(batch).state = before == 1 ? 2 : before;
        try {
            return what == 0 ? winner(i) : what == 1 ? order(i) : top(i);
        } finally {
            batches.get(batch).state = before;
        }
    }

    boolean seal() {
        boolean first = !sealed;
        sealed = true;
        return first;
    }

    private boolean candidate(int c) {
        return c >= 0 && c < n;
    }

    private boolean batch(int i) {
        return i >= 0 && i < batches.size();
    }

    private boolean ranking(int word) {
        long rest = word & 0xffffffffL;
        for (int c = 0; c < n; c++) {
            if (rest % 16 > 8) {
                return false;
            }
            rest /= 16;
        }
        return rest == 0;
    }

    private void pair(int a, int b) {
        argument(candidate(a) && candidate(b) && a != b);
    }

    private static void argument(boolean good) {
        if (!good) {
            throw new IllegalArgumentException();
        }
    }

    private static void state(boolean good) {
        if (!good) {
            throw new IllegalStateException();
        }
    }

    private static <T> T at(List<T> list, int i) {
        if (i < 0 || i >= list.size()) {
            throw new IndexOutOfBoundsException();
        }
        return list.get(i);
    }

    private static int place(int ranking, int c) {
        int place = (ranking >> 4 * c) & 15;
        return place == 0 ? 99 : place;
    }

    private static boolean in(int set, int c) {
        return (set & 1 << c) != 0;
    }

    private int[][] directs() {
        int[][] direct = new int[n][n];
        for (int a = 0; a < n; a++) {
            for (int b = 0; b < n; b++) {
                if (a != b) {
                    direct[a][b] = prefer(a, b) > prefer(b, a) ? prefer(a, b) : 0;
                }
            }
        }
        return direct;
    }

    /** All ways without a candidate twice; others are never better than these. */
    private List<List<Integer>> ways(int a, int b, int[][] direct) {
        List<List<Integer>> found = new ArrayList<>();
        List<Integer> row = new ArrayList<>();
        row.add(a);
        extend(row, b, direct, found);
        return found;
    }

    private void extend(List<Integer> row, int b, int[][] direct, List<List<Integer>> found) {
        int last = row.get(row.size() - 1);
        if (last == b) {
            found.add(new ArrayList<>(row));
            return;
        }
        for (int c = 0; c < n; c++) {
            if (direct[last][c] > 0 && !row.contains(c)) {
                row.add(c);
                extend(row, b, direct, found);
                row.remove(row.size() - 1);
            }
        }
    }

    private static int strong(List<Integer> row, int[][] direct) {
        int least = Integer.MAX_VALUE;
        for (int i = 1; i < row.size(); i++) {
            least = Math.min(least, direct[row.get(i - 1)][row.get(i)]);
        }
        return least;
    }

    private static String lexicographic(List<Integer> row) {
        return row.toString();
    }

    /** The row that a word tells; an empty one if it tells none. */
    private List<Integer> row(int word) {
        String digits = Integer.toHexString(word);
        List<Integer> row = new ArrayList<>();
        for (int i = digits.length() - 1; i >= 0; i--) {
            int c = Character.digit(digits.charAt(i), 16) - 1;
            if (!candidate(c)) {
                return new ArrayList<>();
            }
            row.add(c);
        }
        return row;
    }

    private boolean[][] locks() {
        int[][] direct = directs();
        List<int[]> pairs = new ArrayList<>();
        for (int a = 0; a < n; a++) {
            for (int b = 0; b < n; b++) {
                if (direct[a][b] > 0) {
                    pairs.add(new int[] {a, b});
                }
            }
        }
        Comparator<int[]> first = Comparator.comparing(p -> -direct[p[0]][p[1]]);
        pairs.sort(first.thenComparing(p -> prefer(p[1], p[0]))
            .thenComparing(p -> drawn.indexOf(p[0])).thenComparing(p -> drawn.indexOf(p[1])));
        boolean[][] locks = new boolean[n][n];
        for (int[] p : pairs) {
            locks[p[0]][p[1]] = !leads(locks, p[1], p[0], n);
        }
        return locks;
    }

    private boolean leads(boolean[][] locks, int from, int to, int steps) {
        if (from == to) {
            return true;
        }
        for (int c = 0; steps > 0 && c < n; c++) {
            if (locks[from][c] && leads(locks, c, to, steps - 1)) {
                return true;
            }
        }
        return false;
    }
}
