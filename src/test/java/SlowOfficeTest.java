import java.util.Random;

/** Long runs of all sorts of calls, each answered as by SlowOffice. The seeds are fixed. */
public final class SlowOfficeTest {
    private static final int CALLS = 512;
    private static final int RUNS = 200;
    private static final String[] QUESTIONS = {
        "prefer", "strength", "way", "cut", "locked", "winner", "order", "top", "without", "proves",
        "proves", "proves", "drawn", "state", "voters"};
    private static final String[] CHANGES = {
        "tie", "tie", "tie", "tie", "tie", "tie", "open", "ballot", "ballot", "ballot", "ballot", "ballot", "ballot",
        "ballot", "ballot", "ballot", "turn", "turn", "turn", "turn", "turn", "turn", "correct", "correct"};

    private final int seed;
    private final Random random;
    private final int n;
    private final int mostTimes;
    private final boolean mayBeWrong;
    private final BeatPathOffice office;
    private final SlowOffice slow;

    private SlowOfficeTest(int seed) {
        this.seed = seed;
        random = new Random(seed);
        int asked = random.nextInt(11) - 1;
        n = asked < 1 || asked > 8 ? 5 : asked;
        mostTimes = random.nextInt(3) == 0 ? 10000 : 1 + random.nextInt(4);
        mayBeWrong = random.nextInt(3) == 0;
        office = new BeatPathOffice(asked);
        slow = new SlowOffice(asked);
    }

    public static void main(String[] args) {
        for (int seed = 0; seed < RUNS; seed++) {
            if (!new SlowOfficeTest(seed).run()) {
                System.exit(1);
            }
        }
        System.out.println(RUNS + " runs of " + CALLS + " calls are as due");
    }

    private boolean run() {
        for (int call = 0; call < CALLS; call++) {
            String name = nextName(call);
            int[] args = arguments(name);
            String got = Calls.answer(office, name, args);
            String due = Calls.answer(slow, name, args);
            if (!got.equals(due)) {
                System.out.println("seed " + seed + ", call " + call + ": " + Calls.told(name, args)
                    + " answered " + got + ", due is " + due);
                return false;
            }
        }
        return true;
    }

    /** At first mostly changes, so that there is something to ask about; the seal near the end. */
    private String nextName(int call) {
        if (call > 480 && random.nextInt(20) == 0) {
            return "seal";
        }
        int changesOfTwelve = call < 20 ? 12 : call < 200 ? 8 : 2;
        return pick(random.nextInt(12) < changesOfTwelve ? CHANGES : QUESTIONS);
    }

    private String pick(String[] names) {
        return names[random.nextInt(names.length)];
    }

    private int[] arguments(String name) {
        switch (name) {
            case "tie": return new int[] {candidate(), candidate()};
            case "ballot": return new int[] {batch(), ranking(), times()};
            case "turn": return new int[] {batch(), random.nextInt(mayBeWrong ? 4 : 3)};
            case "correct": return new int[] {batch(), random.nextInt(7) - (mayBeWrong ? 1 : 0), ranking()};
            case "drawn": case "winner": case "order": case "top": return new int[] {random.nextInt(n + 2) - 1};
            case "state": return new int[] {batch()};
            case "without": return new int[] {batch(), random.nextInt(mayBeWrong ? 4 : 3), random.nextInt(n + 1)};
            case "open": case "voters": case "seal": return new int[0];
            case "proves": return proof();
            default: return new int[] {candidate(), candidate()};
        }
    }

    private boolean wrongNow() {
        return mayBeWrong && random.nextInt(8) == 0;
    }

    private int candidate() {
        return wrongNow() ? random.nextInt(20) - 6 : random.nextInt(n);
    }

    private int batch() {
        return wrongNow() ? random.nextInt(16) - 2 : random.nextInt(12);
    }

    private int times() {
        return wrongNow() ? random.nextInt(3) * 10001 - 1 : 1 + random.nextInt(mostTimes);
    }

    private int ranking() {
        if (wrongNow()) {
            return random.nextInt();
        }
        int word = 0;
        for (int c = 0; c < n; c++) {
            word |= random.nextInt(9) << (4 * c);
        }
        return word;
    }

    /** The true proof, or one of which a part was changed. */
    private int[] proof() {
        int a = candidate();
        int b = candidate();
        if (a < 0 || b < 0 || a >= n || b >= n || a == b) {
            return new int[] {a, b, 0, 0, 1};
        }
        int[] args = {a, b, slow.strength(a, b), slow.way(a, b), slow.cut(a, b)};
        switch (random.nextInt(8)) {
            case 0: args[2] += random.nextInt(3) - 1; break;
            case 1: args[3] = walk(a); break;
            case 2: args[3] ^= 1 << random.nextInt(32); break;
            case 3: args[4] ^= 1 << random.nextInt(n); break;
            case 4: args[4] ^= 1 << random.nextInt(32); break;
            case 5: args[2] = random.nextInt(2) - 1; break;
            case 6: args = new int[] {a, b, random.nextInt(mostTimes) + 1, walk(a), random.nextInt(1 << n)}; break;
            default: break;
        }
        return args;
    }

    /** A row by winning steps, which may come by a candidate twice. */
    private int walk(int a) {
        int word = a + 1;
        int at = a;
        int length = 2 + random.nextInt(7);
        for (int i = 1; i < length; i++) {
            int next = random.nextInt(n);
            for (int tries = 0; tries < 9 && (next == at || slow.prefer(at, next) <= slow.prefer(next, at)); tries++) {
                next = random.nextInt(n);
            }
            word |= (next + 1) << (4 * i);
            at = next;
        }
        return word;
    }
}
