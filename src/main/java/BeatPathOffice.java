import java.util.Arrays;

/**
 * Counts rankings that come in batches, which may be withdrawn, put back and corrected, and tells
 * by two methods who comes first, each with what proves it.
 *
 * <p>Sets of candidates are ints inside: bit c stands for candidate c.
 */
public final class BeatPathOffice {
    private static final int MOST_CANDIDATES = 8;
    private static final int USUAL_CANDIDATES = 5;
    private static final int MOST_BATCHES = 12;
    private static final int MOST_BALLOTS = 6;
    private static final int MOST_TIMES = 10000;
    private static final int LAST_PLACE = 8;

    private static final int OPEN = 0;
    private static final int CLOSED = 1;
    private static final int WITHDRAWN = 2;

    private static final int CLOSE = 0;
    private static final int WITHDRAW = 1;
    private static final int PUT_BACK = 2;

    private static final int WINNERS = 0;
    private static final int ORDER = 1;
    private static final int TOP = 2;

    private static final int NONE = -1;

    private final int candidates;
    private final int[] drawnOrder;
    private final Batch[] batches;
    private int opened;
    private boolean sealed;
    private final Count count;
    private final Count trial;
    private final BeatPaths paths;
    private final Locks locks;

    public BeatPathOffice(int n) {
        candidates = n >= 1 && n <= MOST_CANDIDATES ? n : USUAL_CANDIDATES;
        drawnOrder = new int[candidates];
        for (int c = 0; c < candidates; c++) {
            drawnOrder[c] = c;
        }
        batches = new Batch[MOST_BATCHES];
        for (int i = 0; i < MOST_BATCHES; i++) {
            batches[i] = new Batch();
        }
        opened = 0;
        sealed = false;
        count = new Count(candidates);
        trial = new Count(candidates);
        paths = new BeatPaths(candidates);
        locks = new Locks(candidates);
    }

    public void tie(int candidate, int place) throws IllegalArgumentException, IllegalStateException {
        needCandidate(candidate);
        if (!isCandidate(place)) {
            throw new IllegalArgumentException("no such place");
        }
        needUnsealed();
        if (opened > 0) {
            throw new IllegalStateException("a batch was opened");
        }
        moveInDrawnOrder(candidate, place);
    }

    public int drawn(int place) throws IndexOutOfBoundsException {
        if (!isCandidate(place)) {
            throw new IndexOutOfBoundsException("no such place");
        }
        return drawnOrder[place];
    }

    public int open() throws IllegalStateException {
        needUnsealed();
        if (opened >= MOST_BATCHES) {
            throw new IllegalStateException("no more batches");
        }
        opened++;
        return opened - 1;
    }

    public int ballot(int batch, int ranking, int times) throws IllegalArgumentException, IllegalStateException {
        needBatch(batch);
        needRanking(ranking);
        if (times < 1 || times > MOST_TIMES) {
            throw new IllegalArgumentException("times");
        }
        needUnsealed();
        Batch to = batches[batch];
        if (to.stage != OPEN || to.size >= MOST_BALLOTS) {
            throw new IllegalStateException("the batch takes no ballot");
        }
        return to.put(ranking, times);
    }

    public void turn(int batch, int to) throws IllegalArgumentException, IllegalStateException {
        needBatch(batch);
        if (to != CLOSE && to != WITHDRAW && to != PUT_BACK) {
            throw new IllegalArgumentException("no such turn");
        }
        needUnsealed();
        Batch turned = batches[batch];
        if (turned.stage != stageBefore(to)) {
            throw new IllegalStateException("the batch can't be turned so");
        }
        if (to == WITHDRAW) {
            turned.stage = WITHDRAWN;
            count.takeOut(turned);
        } else {
            turned.stage = CLOSED;
            count.putIn(turned);
        }
    }

    public int correct(int batch, int ballot, int ranking)
            throws IllegalArgumentException, IndexOutOfBoundsException, IllegalStateException {
        needBatch(batch);
        needRanking(ranking);
        Batch corrected = batches[batch];
        if (ballot < 0 || ballot >= corrected.size) {
            throw new IndexOutOfBoundsException("no such ballot");
        }
        needUnsealed();
        if (corrected.stage == OPEN) {
            throw new IllegalStateException("the batch is open");
        }
        int before = corrected.rankings[ballot];
        corrected.rankings[ballot] = ranking;
        if (corrected.stage == CLOSED) {
            count.add(before, -corrected.times[ballot]);
            count.add(ranking, corrected.times[ballot]);
        }
        return before;
    }

    public int state(int batch) throws IllegalArgumentException {
        needBatch(batch);
        return batches[batch].stage;
    }

    public int voters() {
        return count.voterSum;
    }

    public int prefer(int a, int b) throws IllegalArgumentException {
        needPair(a, b);
        return count.preferring[a][b];
    }

    public int strength(int a, int b) throws IllegalArgumentException {
        needPair(a, b);
        paths.weigh(count);
        return paths.strongest[a][b];
    }

    public int way(int a, int b) throws IllegalArgumentException {
        needPair(a, b);
        paths.weigh(count);
        return paths.strongestWay(count, a, b);
    }

    public int cut(int a, int b) throws IllegalArgumentException {
        needPair(a, b);
        paths.weigh(count);
        return paths.reachedAbove(a, paths.strongest[a][b]);
    }

    public boolean proves(int a, int b, int s, int way, int set) throws IllegalArgumentException {
        needPair(a, b);
        if (s < 0) {
            return false;
        }
        boolean reached = s == 0 ? way == 0 : count.isWay(a, b, s, way);
        return reached && has(set, a) && !has(set, b) && count.isHeldIn(set, s);
    }

    public int winner(int i) throws IndexOutOfBoundsException {
        return needFound(member(winnerSet(count), i));
    }

    public boolean locked(int a, int b) throws IllegalArgumentException {
        needPair(a, b);
        locks.lockPairs(count, drawnOrder);
        return has(locks.lockedOver[b], a);
    }

    public int order(int i) throws IndexOutOfBoundsException {
        return needFound(inOrder(count, i));
    }

    public int top(int i) throws IndexOutOfBoundsException {
        return needFound(member(count.topSet(), i));
    }

    public int without(int batch, int what, int i) throws IllegalArgumentException, IndexOutOfBoundsException {
        needBatch(batch);
        if (what != WINNERS && what != ORDER && what != TOP) {
            throw new IllegalArgumentException("no such question");
        }
        trial.copy(count);
        if (batches[batch].stage == CLOSED) {
            trial.takeOut(batches[batch]);
        }
        if (what == WINNERS) {
            return needFound(member(winnerSet(trial), i));
        }
        if (what == ORDER) {
            return needFound(inOrder(trial, i));
        }
        return needFound(member(trial.topSet(), i));
    }

    public boolean seal() {
        boolean first = !sealed;
        sealed = true;
        return first;
    }

    private boolean isCandidate(int c) {
        return c >= 0 && c < candidates;
    }

    private void needCandidate(int c) {
        if (!isCandidate(c)) {
            throw new IllegalArgumentException("no such candidate");
        }
    }

    private void needPair(int a, int b) {
        needCandidate(a);
        needCandidate(b);
        if (a == b) {
            throw new IllegalArgumentException("the same candidate twice");
        }
    }

    private void needBatch(int batch) {
        if (batch < 0 || batch >= opened) {
            throw new IllegalArgumentException("no such batch");
        }
    }

    private void needRanking(int ranking) {
        if (!isRanking(ranking)) {
            throw new IllegalArgumentException("no ranking");
        }
    }

    private void needUnsealed() {
        if (sealed) {
            throw new IllegalStateException("the count is sealed");
        }
    }

    private static int needFound(int candidate) {
        if (candidate == NONE) {
            throw new IndexOutOfBoundsException("there is none");
        }
        return candidate;
    }

    private boolean isRanking(int ranking) {
        for (int c = 0; c < MOST_CANDIDATES; c++) {
            if (nibble(ranking, c) > (c < candidates ? LAST_PLACE : 0)) {
                return false;
            }
        }
        return true;
    }

    private static int stageBefore(int to) {
        if (to == CLOSE) {
            return OPEN;
        }
        return to == WITHDRAW ? CLOSED : WITHDRAWN;
    }

    private void moveInDrawnOrder(int candidate, int place) {
        int from = 0;
        for (int p = 0; p < candidates; p++) {
            if (drawnOrder[p] == candidate) {
                from = p;
            }
        }
        for (int p = from; p < place; p++) {
            drawnOrder[p] = drawnOrder[p + 1];
        }
        for (int p = from; p > place; p--) {
            drawnOrder[p] = drawnOrder[p - 1];
        }
        drawnOrder[place] = candidate;
    }

    private int winnerSet(Count of) {
        paths.weigh(of);
        return paths.unbeaten();
    }

    private int inOrder(Count of, int i) {
        if (!isCandidate(i)) {
            return NONE;
        }
        locks.lockPairs(of, drawnOrder);
        return locks.lineUp(drawnOrder, i);
    }

    private static int member(int set, int i) {
        int before = 0;
        for (int c = 0; c < MOST_CANDIDATES; c++) {
            if (has(set, c)) {
                if (before == i) {
                    return c;
                }
                before++;
            }
        }
        return NONE;
    }

    private static boolean has(int set, int c) {
        return ((set >>> c) & 1) != 0;
    }

    private static int nibble(int word, int i) {
        return (word >>> (4 * i)) & 15;
    }

    /** The ballots that came together, and whether they count. */
    private static final class Batch {
        private int stage;
        private int size;
        private final int[] rankings;
        private final int[] times;

        Batch() {
            stage = OPEN;
            size = 0;
            rankings = new int[MOST_BALLOTS];
            times = new int[MOST_BALLOTS];
        }

        int put(int ranking, int voters) {
            rankings[size] = ranking;
            times[size] = voters;
            size++;
            return size - 1;
        }
    }

    /** How many voters have one candidate before another, and what follows from that alone. */
    private static final class Count {
        private final int n;
        private int voterSum;
        private final int[][] preferring;

        Count(int candidates) {
            n = candidates;
            voterSum = 0;
            preferring = new int[candidates][candidates];
        }

        void copy(Count other) {
            voterSum = other.voterSum;
            for (int a = 0; a < n; a++) {
                System.arraycopy(other.preferring[a], 0, preferring[a], 0, n);
            }
        }

        void putIn(Batch batch) {
            for (int i = 0; i < batch.size; i++) {
                add(batch.rankings[i], batch.times[i]);
            }
        }

        void takeOut(Batch batch) {
            for (int i = 0; i < batch.size; i++) {
                add(batch.rankings[i], -batch.times[i]);
            }
        }

        void add(int ranking, int voters) {
            voterSum += voters;
            for (int a = 0; a < n; a++) {
                for (int b = 0; b < n; b++) {
                    if (comesBefore(ranking, a, b)) {
                        preferring[a][b] += voters;
                    }
                }
            }
        }

        private static boolean comesBefore(int ranking, int a, int b) {
            int placeA = nibble(ranking, a);
            int placeB = nibble(ranking, b);
            return placeA != 0 && (placeB == 0 || placeA < placeB);
        }

        int direct(int a, int b) {
            return preferring[a][b] > preferring[b][a] ? preferring[a][b] : 0;
        }

        /** Whether word tells a way from a to b of which no step is below s, where s is above 0. */
        boolean isWay(int a, int b, int s, int word) {
            if (nibble(word, 0) != a + 1) {
                return false;
            }
            int at = a;
            int rest = word >>> 4;
            for (int i = 1; i < MOST_CANDIDATES && rest != 0; i++) {
                int next = nibble(rest, 0) - 1;
                if (next < 0 || next >= n || direct(at, next) < s) {
                    return false;
                }
                at = next;
                rest = rest >>> 4;
            }
            return at == b;
        }

        /** Whether set is one of candidates, and no direct above s leads out of it. */
        boolean isHeldIn(int set, int s) {
            if (set >>> n != 0) {
                return false;
            }
            for (int a = 0; a < n; a++) {
                for (int b = 0; b < n; b++) {
                    if (has(set, a) && !has(set, b) && direct(a, b) > s) {
                        return false;
                    }
                }
            }
            return true;
        }

        /** Of two sets that beat all outside them one holds the other, so the smallest is the least. */
        int topSet() {
            int least = beatingSetAround(0);
            for (int c = 1; c < n; c++) {
                int set = beatingSetAround(c);
                if (Integer.bitCount(set) < Integer.bitCount(least)) {
                    least = set;
                }
            }
            return least;
        }

        /** Whom a member does not beat must be a member too; n rounds reach all of them. */
        private int beatingSetAround(int c) {
            int set = 1 << c;
            for (int round = 0; round < n; round++) {
                for (int a = 0; a < n; a++) {
                    if (has(set, a)) {
                        set |= notBeatenBy(a);
                    }
                }
            }
            return set;
        }

        private int notBeatenBy(int a) {
            int set = 0;
            for (int b = 0; b < n; b++) {
                if (direct(a, b) == 0) {
                    set |= 1 << b;
                }
            }
            return set;
        }
    }

    /** The first method: the strongest ways between all candidates. */
    private static final class BeatPaths {
        private final int n;
        private final int[][] strongest;
        private final int[] steps;

        BeatPaths(int candidates) {
            n = candidates;
            strongest = new int[candidates][candidates];
            steps = new int[candidates];
        }

        void weigh(Count count) {
            for (int a = 0; a < n; a++) {
                for (int b = 0; b < n; b++) {
                    strongest[a][b] = count.direct(a, b);
                }
            }
            for (int over = 0; over < n; over++) {
                for (int a = 0; a < n; a++) {
                    widen(a, over);
                }
            }
        }

        private void widen(int a, int over) {
            for (int b = 0; b < n; b++) {
                int detour = Math.min(strongest[a][over], strongest[over][b]);
                strongest[a][b] = Math.max(strongest[a][b], detour);
            }
        }

        /** a itself, and all to which ways from it lead that are stronger than s. */
        int reachedAbove(int a, int s) {
            int set = 1 << a;
            for (int c = 0; c < n; c++) {
                if (strongest[a][c] > s) {
                    set |= 1 << c;
                }
            }
            return set;
        }

        int unbeaten() {
            int set = 0;
            for (int a = 0; a < n; a++) {
                if (isUnbeaten(a)) {
                    set |= 1 << a;
                }
            }
            return set;
        }

        private boolean isUnbeaten(int a) {
            for (int b = 0; b < n; b++) {
                if (strongest[a][b] < strongest[b][a]) {
                    return false;
                }
            }
            return true;
        }

        /** The shortest way of steps not below the strength; the least next candidate goes first. */
        int strongestWay(Count count, int a, int b) {
            int s = strongest[a][b];
            if (s == 0) {
                return 0;
            }
            countSteps(count, b, s);
            int word = a + 1;
            int at = a;
            for (int i = 1; i < n && at != b; i++) {
                at = nextTowards(count, at, s);
                word |= (at + 1) << (4 * i);
            }
            return word;
        }

        /** How many steps not below s each candidate is away from b; n if none lead there. */
        private void countSteps(Count count, int b, int s) {
            Arrays.fill(steps, n);
            steps[b] = 0;
            for (int away = 1; away < n; away++) {
                for (int c = 0; c < n; c++) {
                    if (steps[c] == n && nextAt(count, c, s, away - 1) != NONE) {
                        steps[c] = away;
                    }
                }
            }
        }

        private int nextTowards(Count count, int at, int s) {
            int next = nextAt(count, at, s, steps[at] - 1);
            return next == NONE ? at : next;
        }

        private int nextAt(Count count, int at, int s, int away) {
            for (int c = 0; c < n; c++) {
                if (steps[c] == away && count.direct(at, c) >= s) {
                    return c;
                }
            }
            return NONE;
        }
    }

    /** The second method: pairs locked one after the other, where no ring comes of it. */
    private static final class Locks {
        private final int n;
        private final int[] lockedOver;
        private final int[] comesTo;
        private final int[] upper;
        private final int[] lower;
        private int pairs;

        Locks(int candidates) {
            n = candidates;
            lockedOver = new int[candidates];
            comesTo = new int[candidates];
            upper = new int[candidates * candidates];
            lower = new int[candidates * candidates];
            pairs = 0;
        }

        void lockPairs(Count count, int[] drawn) {
            Arrays.fill(lockedOver, 0);
            Arrays.fill(comesTo, 0);
            sortPairs(count, drawn);
            for (int i = 0; i < pairs; i++) {
                if (!has(comesTo[lower[i]], upper[i])) {
                    lock(upper[i], lower[i]);
                }
            }
        }

        /** Pairs come by the drawn order, and an equal one never overtakes: so it breaks the ties. */
        private void sortPairs(Count count, int[] drawn) {
            pairs = 0;
            for (int i = 0; i < n; i++) {
                for (int j = 0; j < n; j++) {
                    if (count.direct(drawn[i], drawn[j]) > 0) {
                        insert(count, drawn[i], drawn[j]);
                    }
                }
            }
        }

        private void insert(Count count, int a, int b) {
            int at = pairs;
            for (; at > 0 && overtakes(count, a, b, at - 1); at--) {
                upper[at] = upper[at - 1];
                lower[at] = lower[at - 1];
            }
            upper[at] = a;
            lower[at] = b;
            pairs++;
        }

        private boolean overtakes(Count count, int a, int b, int at) {
            int own = count.direct(a, b);
            int other = count.direct(upper[at], lower[at]);
            if (own != other) {
                return own > other;
            }
            return count.preferring[b][a] < count.preferring[lower[at]][upper[at]];
        }

        private void lock(int a, int b) {
            lockedOver[b] |= 1 << a;
            int gained = comesTo[b] | (1 << b);
            for (int c = 0; c < n; c++) {
                if (c == a || has(comesTo[c], a)) {
                    comesTo[c] |= gained;
                }
            }
        }

        /** The candidate at place i of the order, i below n. */
        int lineUp(int[] drawn, int i) {
            int left = (1 << n) - 1;
            int next = NONE;
            for (int place = 0; place <= i; place++) {
                next = firstFree(drawn, left);
                left &= ~(1 << next);
            }
            return next;
        }

        /** There always is one, as locked pairs make no ring. */
        private int firstFree(int[] drawn, int left) {
            for (int p = 0; p < n; p++) {
                if (has(left, drawn[p]) && (lockedOver[drawn[p]] & left) == 0) {
                    return drawn[p];
                }
            }
            return NONE;
        }
    }
}
