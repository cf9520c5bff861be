import java.util.Arrays;
import java.util.function.IntFunction;

/**
 * Runs that several tests begin with, and rows that they share. A test extends it to call them by
 * their bare names, as a class without a package can't be imported.
 */
abstract class Elections {
    private static final int LEAST = Integer.MIN_VALUE;
    private static final int MOST = Integer.MAX_VALUE;
    /** So many voters as a ballot can stand for, who have the candidates by their numbers. */
    private static final String BY_NUMBERS = "0x87654321 10000";

    /** A ring 0 1 2 with prefer 0 1 = 8, 1 2 = 9, 2 0 = 7 of 12 voters, who all have 3 last. */
    static Run ring(String title) {
        return new Run(title, 4).batch(0, "0x321 5", "0x213 4", "0x132 3");
    }

    /** Three who beat one another by 2 to 1, in a drawn order. */
    static Run evenRing(String title, int first, int second, int third) {
        return new Run(title, 3).play("tie " + third + " 0 : -", "tie " + second + " 0 : -", "tie " + first + " 0 : -")
            .batch(0, "0x321 1", "0x132 1", "0x213 1");
    }

    /** All three of the ring have a direct of 10; against 2 0 there are 4, against the others 6. */
    static Run sameDirect(String title, String tie) {
        return new Run(title, 3).play(tie).batch(0, "0x321 4", "0x213 5", "0x132 5", "0x101 1", "0x010 1");
    }

    /** The example of 45 voters by which Schulze's method is told in books; 0 .. 4 are A .. E. */
    static Run schulze(String title) {
        return new Run(title, 5)
            .batch(0, "0x45231 5", "0x32451 5", "0x23514 8", "0x45132 3", "0x35142 7", "0x54123 2")
            .batch(1, "0x31245 7", "0x14523 8");
    }

    /** Memphis, Nashville, Chattanooga, Knoxville: each comes before those farther away. */
    static Run tennessee(String title) {
        return new Run(title, 4).batch(0, "0x4321 42", "0x3214 26", "0x2134 15", "0x1234 17");
    }

    /** As many batches, ballots and voters as there may be: 720000, who have all by their numbers. */
    static Run full(String title) {
        Run run = new Run(title, 8);
        for (int batch = 0; batch < 12; batch++) {
            run.batch(batch, BY_NUMBERS, BY_NUMBERS, BY_NUMBERS, BY_NUMBERS, BY_NUMBERS, BY_NUMBERS);
        }
        return run;
    }

    /** Each of eight beats the next one by number, 8 to 6, and is even with all others. */
    static Run chain(String title) {
        return edges(new Run(title, 8), 8, 0, 1, 1, 1, 2, 1, 2, 3, 1, 3, 4, 1, 4, 5, 1, 5, 6, 1, 6, 7, 1);
    }

    /** The chain the other way round: 7 comes first. */
    static Run backwards(String title) {
        return edges(new Run(title, 8), 8, 7, 6, 1, 6, 5, 1, 5, 4, 1, 4, 3, 1, 3, 2, 1, 2, 1, 1, 1, 0, 1);
    }

    /**
     * Two ballots for each a, b, w in edges: prefer a b is the sum of all w and w, prefer b a the
     * sum less w, and pairs that are not there have the sum both ways.
     */
    static Run edges(Run run, int n, int... edges) {
        for (int e = 0; e < edges.length; e += 3) {
            int a = edges[e];
            int b = edges[e + 1];
            int ahead = 1 << 4 * a | 2 << 4 * b;
            int behind = (n - 1) << 4 * a | n << 4 * b;
            int place = 1;
            for (int c = 0; c < n; c++) {
                if (c != a && c != b) {
                    ahead |= (place + 2) << 4 * c;
                    behind |= (n - 1 - place) << 4 * c;
                    place++;
                }
            }
            run.batch(e / 3, ahead + " " + edges[e + 2], behind + " " + edges[e + 2]);
        }
        return run;
    }

    /** Puts ballots told as "ranking times" into a new batch, which stays open. */
    static Run opened(Run run, int number, String... ballots) {
        run.play("open : " + number);
        for (int i = 0; i < ballots.length; i++) {
            run.play("ballot " + number + " " + ballots[i] + " : " + i);
        }
        return run;
    }

    /** Two candidates, and one batch of 3 voters for 0 that was brought into a state. */
    static Run inState(String title, int state) {
        Run run = opened(new Run(title, 2), 0, "0x21 3");
        if (state >= 1) {
            run.play("turn 0 0 : -");
        }
        if (state == 2) {
            run.play("turn 0 1 : -");
        }
        return run.play("state 0 : " + state);
    }

    /** 0, 1, .. n - 1. */
    static int[] upTo(int n) {
        int[] all = new int[n];
        for (int c = 0; c < n; c++) {
            all[c] = c;
        }
        return all;
    }

    /**
     * Numbers about low .. high that are no such ones: the next ones, those that a shift, a byte or a
     * short would take for one of them, and the ends of all ints.
     */
    static int[] outside(int low, int high) {
        return Arrays.stream(new int[] {low - 1, high + 1, high + 2, low - 32, low + 32, high + 32,
            low - 256, low + 256, low - 65536, low + 65536, high + 65536, LEAST, LEAST + 1, MOST - 1, MOST})
            .filter(x -> x < low || x > high).toArray();
    }

    /** A call with one argument that may be low .. high, with others. */
    static Run refuse(Run run, int low, int high, String exception, IntFunction<String> call) {
        for (int x : outside(low, high)) {
            run.play(call.apply(x) + " : " + exception);
        }
        return run;
    }
}
