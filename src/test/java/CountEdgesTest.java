/**
 * The boundaries that the document names for the count: Terms, promises 1 to 10 and 20. Each has a
 * run of its own, whose title is the sentence: the last value that it takes and the first that it
 * does not, the empty case and the full one, and refused calls.
 */
public final class CountEdgesTest extends Elections {
    private static final String[] PAIR_CALLS = {"prefer", "strength", "way", "cut", "proves", "locked"};

    public static void main(String[] args) {
        noSuchCandidate();
        sameCandidate();
        noSuchBatch();
        placesInOrder();
        placeOfTheLastCandidate();
        onlyClosedCount();
        moreThan();
        newObject();
        tie();
        drawn();
        open();
        rankings();
        rankingWrongInOnePlace();
        times();
        sixBallots();
        ballotInState();
        turn();
        turnAgain();
        correctBallots();
        correct();
        state();
        voters();
        prefer();
        seal();
        Run.end();
    }

    private static String pairCall(String name, int a, int b) {
        return name + " " + a + " " + b + (name.equals("proves") ? " 0 0 " + (1 << a) : "");
    }

    /** What calls with two candidates answer as long as nothing was counted. */
    private static String emptyAnswer(String name, int a) {
        switch (name) {
            case "cut": return "" + (1 << a);
            case "proves": return "true";
            case "locked": return "false";
            default: return "0";
        }
    }

    private static void noSuchCandidate() {
        for (int n = 1; n <= 8; n++) {
            for (String name : PAIR_CALLS) {
                int last = n - 1;
                Run run = new Run("there is no such candidate, n " + n + ", " + name, n);
                refuse(run, 0, last, "BAD", x -> pairCall(name, x, 0));
                refuse(run, 0, last, "BAD", x -> pairCall(name, x, last));
                refuse(run, 0, last, "BAD", x -> pairCall(name, 0, x));
                refuse(run, 0, last, "BAD", x -> pairCall(name, last, x));
                refuse(run, 0, last, "BAD", x -> pairCall(name, x, x));
                if (n > 1) {
                    run.play(pairCall(name, 0, last) + " : " + emptyAnswer(name, 0),
                        pairCall(name, last, 0) + " : " + emptyAnswer(name, last));
                }
            }
        }
    }

    private static void sameCandidate() {
        for (String name : PAIR_CALLS) {
            Run run = new Run("where two candidates are asked for, also if they are the same: " + name, 8);
            for (int a = 0; a < 8; a++) {
                for (int b = 0; b < 8; b++) {
                    run.play(pairCall(name, a, b) + " : " + (a == b ? "BAD" : emptyAnswer(name, a)));
                }
            }
            new Run("the same, the only one: " + name, 1).play(pairCall(name, 0, 0) + " : BAD");
            ring("the same, counted: " + name).play(pairCall(name, 0, 0) + " : BAD", pairCall(name, 3, 3) + " : BAD");
        }
    }

    private static void noSuchBatch() {
        for (int count : new int[] {0, 1, 2, 11, 12}) {
            int last = count - 1;
            Run run = new Run("there is no such batch, of " + count, 2);
            for (int batch = 0; batch < count; batch++) {
                run.play("open : " + batch);
            }
            refuse(run, 0, last, "BAD", x -> "ballot " + x + " 0x21 1");
            refuse(run, 0, last, "BAD", x -> "correct " + x + " 0 0x21");
            refuse(run, 0, last, "BAD", x -> "state " + x);
            for (int to = 0; to < 3; to++) {
                String third = " " + to;
                refuse(run, 0, last, "BAD", x -> "turn " + x + third);
                refuse(run, 0, last, "BAD", x -> "without " + x + third + " 0");
            }
            for (int batch = 0; batch < count; batch++) {
                run.play("ballot " + batch + " 0x21 1 : 0", "without " + batch + " 2 0 : 0", "turn " + batch + " 0 : -",
                    "correct " + batch + " 0 0x21 : 0x21", "state " + batch + " : 1");
            }
        }
    }

    private static void placesInOrder() {
        Run run = new Run("the place, 1 .. 8, or 0, which comes behind all others", 2).batch(0, "0 1");
        int before = 0;
        for (int first = 0; first <= 8; first++) {
            for (int second = 0; second <= 8; second++) {
                int ranking = second << 4 | first;
                boolean ahead = first != 0 && (second == 0 || first < second);
                boolean behind = second != 0 && (first == 0 || second < first);
                run.play("correct 0 0 " + ranking + " : " + before, "prefer 0 1 : " + (ahead ? 1 : 0),
                    "prefer 1 0 : " + (behind ? 1 : 0));
                before = ranking;
            }
        }
    }

    private static void placeOfTheLastCandidate() {
        new Run("bits 4 c .. 4 c + 3 are the place of candidate c: 7", 8).batch(0, "0x80000000 5")
            .play("prefer 7 0 : 5", "prefer 0 7 : 0", "correct 0 0 0x80000007 : 0x80000000", "prefer 7 0 : 0",
                "prefer 0 7 : 5", "prefer 7 1 : 5", "correct 0 0 0x80000008 : 0x80000007", "prefer 7 0 : 0",
                "prefer 0 7 : 0", "correct 0 0 0x70000008 : 0x80000008", "prefer 7 0 : 5", "prefer 0 7 : 0");
    }

    private static void onlyClosedCount() {
        inState("of all voters of closed batches: open", 0).play("voters : 0", "prefer 0 1 : 0", "strength 0 1 : 0",
            "way 0 1 : 0", "locked 0 1 : false").row("winner", 0, 1).row("top", 0, 1);
        inState("of all voters of closed batches: closed", 1).play("voters : 3", "prefer 0 1 : 3", "strength 0 1 : 3",
            "way 0 1 : 0x21", "locked 0 1 : true").row("winner", 0).row("top", 0);
        inState("of all voters of closed batches: withdrawn", 2).play("voters : 0", "prefer 0 1 : 0",
            "strength 0 1 : 0", "way 0 1 : 0", "locked 0 1 : false").row("winner", 0, 1).row("top", 0, 1);
        inState("of all voters of closed batches: put back", 2).play("turn 0 2 : -", "voters : 3", "prefer 0 1 : 3",
            "strength 0 1 : 3", "way 0 1 : 0x21", "locked 0 1 : true").row("winner", 0).row("top", 0);
        new Run("a closed batch without ballots", 2).batch(0).play("voters : 0", "prefer 0 1 : 0", "turn 0 1 : -",
            "turn 0 2 : -", "voters : 0").row("winner", 0, 1);
    }

    private static void moreThan() {
        new Run("prefer a b if that is more than prefer b a: one less", 2).batch(0, "0x21 9999", "0x12 10000")
            .play("strength 0 1 : 0", "strength 1 0 : 10000", "locked 0 1 : false", "locked 1 0 : true");
        new Run("prefer a b if that is more than prefer b a: the same", 2).batch(0, "0x21 10000", "0x12 10000")
            .play("strength 0 1 : 0", "strength 1 0 : 0", "locked 0 1 : false", "locked 1 0 : false")
            .row("winner", 0, 1).row("top", 0, 1);
        new Run("prefer a b if that is more than prefer b a: one more", 2).batch(0, "0x21 10000", "0x12 9999")
            .play("strength 0 1 : 10000", "strength 1 0 : 0", "locked 0 1 : true", "locked 1 0 : false");
    }

    private static void newObject() {
        for (int n = 1; n <= 8; n++) {
            new Run("so many candidates, 1 .. 8: " + n, n).row("drawn", upTo(n)).row("winner", upTo(n))
                .row("order", upTo(n)).row("top", upTo(n));
        }
        for (int n : outside(1, 8)) {
            new Run("otherwise 5: " + n, n).row("drawn", upTo(5)).row("winner", upTo(5)).row("order", upTo(5))
                .row("top", upTo(5)).play("prefer 0 4 : 0", "prefer 0 5 : BAD", "open : 0",
                    "ballot 0 0x88888 1 : 0", "ballot 0 0x100000 1 : BAD");
        }
        new Run("no batches", 3).play("state 0 : BAD", "voters : 0", "turn 0 0 : BAD", "without 0 0 0 : BAD",
            "ballot 0 0 1 : BAD", "correct 0 0 0 : BAD", "tie 0 1 : -", "open : 0", "state 0 : 0");
        new Run("a new object is not sealed", 3).play("seal : true");
    }

    private static void tie() {
        for (int n = 1; n <= 8; n++) {
            int last = n - 1;
            Run run = new Run("tie: there is no such candidate, n " + n, n);
            refuse(run, 0, last, "BAD", x -> "tie " + x + " 0");
            refuse(run, 0, last, "BAD", x -> "tie " + x + " " + last);
            run.row("drawn", upTo(n));
            run = new Run("tie: also if there is no such place, n " + n, n);
            refuse(run, 0, last, "BAD", x -> "tie 0 " + x);
            refuse(run, 0, last, "BAD", x -> "tie " + last + " " + x);
            run.row("drawn", upTo(n)).play("tie 0 " + last + " : -", "drawn " + last + " : 0",
                "tie " + last + " 0 : -", "drawn 0 : " + last);
        }
        new Run("a place (from 0) in the drawn order, the others staying in their order", 8)
            .play("tie 7 0 : -").row("drawn", 7, 0, 1, 2, 3, 4, 5, 6)
            .play("tie 7 7 : -").row("drawn", 0, 1, 2, 3, 4, 5, 6, 7)
            .play("tie 0 7 : -").row("drawn", 1, 2, 3, 4, 5, 6, 7, 0)
            .play("tie 0 7 : -").row("drawn", 1, 2, 3, 4, 5, 6, 7, 0)
            .play("tie 1 0 : -").row("drawn", 1, 2, 3, 4, 5, 6, 7, 0)
            .play("tie 4 4 : -").row("drawn", 1, 2, 3, 5, 4, 6, 7, 0)
            .play("tie 6 2 : -").row("drawn", 1, 2, 6, 3, 5, 4, 7, 0);
        new Run("tie: the only place", 1).play("tie 0 0 : -").row("drawn", 0);
        new Run("tie: also if a batch was opened", 3).play("tie 2 0 : -", "open : 0", "tie 1 0 : STATE",
            "tie 2 0 : STATE", "turn 0 0 : -", "tie 1 0 : STATE", "turn 0 1 : -", "tie 1 0 : STATE")
            .row("drawn", 2, 0, 1);
        new Run("tie: the count is sealed", 3).play("tie 2 0 : -", "seal : true", "tie 1 0 : STATE",
            "tie 2 0 : STATE").row("drawn", 2, 0, 1);
    }

    private static void drawn() {
        for (int n = 1; n <= 8; n++) {
            refuse(new Run("drawn: there is no such place, n " + n, n), 0, n - 1, "INDEX", x -> "drawn " + x)
                .row("drawn", upTo(n));
        }
        new Run("an order that at first is that of their numbers", 8).row("drawn", 0, 1, 2, 3, 4, 5, 6, 7);
    }

    private static void open() {
        Run run = new Run("open: also if there are 12", 2);
        for (int batch = 0; batch < 12; batch++) {
            run.play("state " + batch + " : BAD", "open : " + batch, "state " + batch + " : 0");
        }
        run.play("open : STATE", "state 12 : BAD", "turn 11 0 : -", "open : STATE", "turn 11 1 : -", "open : STATE",
            "state 11 : 2", "state 12 : BAD");
        new Run("open: the count is sealed, none there", 2).play("seal : true", "open : STATE", "state 0 : BAD");
        new Run("open: the count is sealed, one there", 2).play("open : 0", "seal : true", "open : STATE",
            "state 0 : 0", "state 1 : BAD");
        new Run("open: several at once", 2).play("open : 0", "open : 1", "ballot 1 0 1 : 0", "ballot 0 0 1 : 0",
            "state 0 : 0", "state 1 : 0");
    }

    /** Each digit of a ranking alone, as a correction and as a ballot. */
    private static void rankings() {
        for (int n = 1; n <= 8; n++) {
            for (int c = 0; c < 8; c++) {
                Run run = new Run("a place is 1 .. 8, or 0; bits of no candidate are 0: " + c + " of " + n, n)
                    .batch(0, "0 1").play("open : 1");
                int before = 0;
                int taken = 0;
                for (int place = 0; place <= 15; place++) {
                    int ranking = place << 4 * c;
                    boolean right = place == 0 || c < n && place <= 8;
                    run.play("correct 0 0 " + ranking + " : " + (right ? before : "BAD"));
                    before = right ? ranking : before;
                    if (place <= 1 || place >= 6) {
                        run.play("ballot 1 " + ranking + " 1 : " + (right ? taken : "BAD"));
                        taken += right ? 1 : 0;
                    }
                }
            }
        }
    }

    private static void rankingWrongInOnePlace() {
        opened(new Run("also if the ranking is none: one place of eight", 8), 0)
            .play("ballot 0 0x98888888 1 : BAD", "ballot 0 0x88888889 1 : BAD", "ballot 0 0x88898888 1 : BAD",
                "ballot 0 0xf0000000 1 : BAD", "ballot 0 -1 1 : BAD", "ballot 0 0x7fffffff 1 : BAD",
                "ballot 0 0x88888888 1 : 0", "ballot 0 0x11111111 1 : 1", "ballot 0 0 1 : 2",
                "ballot 0 0x80000000 1 : 3");
        opened(new Run("also if the ranking is none: bits of no candidate", 7), 0)
            .play("ballot 0 0x18888888 1 : BAD", "ballot 0 0x80000000 1 : BAD", "ballot 0 0x8888888 1 : 0");
    }

    private static void times() {
        for (int times : new int[] {1, 2, 9999, 10000}) {
            new Run("times, 1 .. 10000: " + times, 2).batch(0, "0x21 " + times).play("voters : " + times,
                "prefer 0 1 : " + times, "prefer 1 0 : 0");
        }
        refuse(opened(new Run("also if times not 1 .. 10000", 2), 0), 1, 10000, "BAD", x -> "ballot 0 0x21 " + x)
            .play("ballot 0 0x21 1 : 0", "turn 0 0 : -", "voters : 1");
    }

    private static void sixBallots() {
        Run run = new Run("ballot: also if the batch has 6", 2);
        for (int batch = 0; batch < 12; batch++) {
            opened(run, batch, "0x21 1", "0x12 1", "0x21 1", "0x11 1", "0 1", "0x21 1")
                .play("ballot " + batch + " 0x21 1 : STATE", "ballot " + batch + " 0 1 : STATE");
        }
        run.play("turn 0 0 : -", "voters : 6", "prefer 0 1 : 3", "prefer 1 0 : 1", "turn 11 0 : -", "voters : 12");
        opened(new Run("ballots, numbered 0, 1, .. in each batch", 2), 0, "0 1", "0 1", "0 1").play("open : 1",
            "ballot 1 0 1 : 0", "ballot 0 0 1 : 3", "ballot 1 0 1 : 1", "ballot 0 0 1 : 4", "ballot 0 0 1 : 5",
            "ballot 0 0 1 : STATE", "ballot 1 0 1 : 2");
    }

    private static void ballotInState() {
        inState("ballot: an open batch", 0).play("ballot 0 0x21 1 : 1", "turn 0 0 : -", "voters : 4");
        inState("ballot: also if the batch is not open: closed", 1).play("ballot 0 0x21 1 : STATE", "voters : 3",
            "correct 0 1 0 : INDEX");
        inState("ballot: also if the batch is not open: withdrawn", 2).play("ballot 0 0x21 1 : STATE",
            "turn 0 2 : -", "voters : 3", "correct 0 1 0 : INDEX");
        inState("ballot: also if the batch is not open: put back", 2).play("turn 0 2 : -",
            "ballot 0 0x21 1 : STATE", "voters : 3", "correct 0 1 0 : INDEX");
        inState("ballot: the count is sealed", 0).play("seal : true", "ballot 0 0x21 1 : STATE",
            "ballot 0 0 10000 : STATE", "correct 0 1 0 : INDEX");
    }

    private static void turn() {
        for (int state = 0; state < 3; state++) {
            for (int to = 0; to < 3; to++) {
                int after = state != to ? state : to == 1 ? 2 : 1;
                inState("turn: also if the batch is not open (closed, withdrawn): state " + state + ", to " + to, state)
                    .play("turn 0 " + to + " : " + (state == to ? "-" : "STATE"), "state 0 : " + after,
                        "voters : " + (after == 1 ? 3 : 0));
            }
            refuse(inState("turn: also if to is none of these: state " + state, state), 0, 2, "BAD", x -> "turn 0 " + x)
                .play("state 0 : " + state);
            inState("turn: the count is sealed: state " + state, state).play("seal : true", "turn 0 0 : STATE",
                "turn 0 1 : STATE", "turn 0 2 : STATE", "state 0 : " + state);
        }
        new Run("turn: one batch, not others", 2).batch(0, "0x21 1").batch(1, "0x21 2").play("open : 2",
            "turn 1 1 : -", "state 0 : 1", "state 1 : 2", "state 2 : 0", "voters : 1", "turn 2 0 : -", "state 1 : 2",
            "voters : 1", "turn 1 2 : -", "voters : 3");
    }

    private static void turnAgain() {
        Run run = inState("may be withdrawn and put back again: again and again", 1);
        for (int again = 0; again < 40; again++) {
            run.play("turn 0 1 : -", "state 0 : 2", "voters : 0", "prefer 0 1 : 0", "turn 0 2 : -", "state 0 : 1",
                "voters : 3", "prefer 0 1 : 3");
        }
    }

    /** Each ballot of a batch of so many, and numbers of no ballot, first closed and then withdrawn. */
    private static void correctBallots() {
        for (int size = 0; size <= 6; size++) {
            String[] ballots = new String[size];
            for (int i = 0; i < size; i++) {
                ballots[i] = i + 1 + " 1";
            }
            Run run = new Run("correct: there is no such ballot, of " + size, 2).batch(0, ballots);
            refuse(run, 0, size - 1, "INDEX", x -> "correct 0 " + x + " 0x20");
            for (int i = 0; i < size; i++) {
                run.play("correct 0 " + i + " 0x20 : " + (i + 1), "prefer 1 0 : " + (i + 1),
                    "prefer 0 1 : " + (size - i - 1));
            }
            refuse(run.play("turn 0 1 : -"), 0, size - 1, "INDEX", x -> "correct 0 " + x + " 0x20");
            for (int i = 0; i < size; i++) {
                run.play("correct 0 " + i + " 0x1 : 0x20");
            }
            run.play("turn 0 2 : -", "prefer 0 1 : " + size, "prefer 1 0 : 0", "voters : " + size);
        }
        opened(new Run("correct: there is no such ballot in an open batch", 2), 0, "0 1", "0 1", "0 1", "0 1", "0 1",
            "0 1").play("correct 0 5 0x12 : STATE", "correct 0 6 0x12 : INDEX", "correct 0 -1 0x12 : INDEX");
    }

    private static void correct() {
        inState("correct: also if the batch is open", 0).play("correct 0 0 0x21 : STATE", "correct 0 0 0x12 : STATE",
            "turn 0 0 : -", "prefer 0 1 : 3", "correct 0 0 0x12 : 0x21");
        inState("correct: another ranking: the one before", 1).play("correct 0 0 0x12 : 0x21",
            "correct 0 0 0x12 : 0x12", "prefer 1 0 : 3", "correct 0 0 0 : 0x12", "correct 0 0 0x88 : 0",
            "prefer 0 1 : 0", "prefer 1 0 : 0", "voters : 3");
        inState("correct: a batch that is not open: withdrawn", 2).play("correct 0 0 0x12 : 0x21", "voters : 0",
            "prefer 1 0 : 0", "prefer 0 1 : 0", "turn 0 2 : -", "voters : 3", "prefer 1 0 : 3", "prefer 0 1 : 0");
        inState("correct: a batch that is not open: put back", 2).play("turn 0 2 : -", "correct 0 0 0x12 : 0x21",
            "prefer 1 0 : 3", "prefer 0 1 : 0", "turn 0 1 : -", "prefer 1 0 : 0", "prefer 0 1 : 0");
        inState("correct: also if the ranking is none", 1).play("correct 0 0 0x9 : BAD", "correct 0 0 0x90 : BAD",
            "correct 0 0 0x121 : BAD", "correct 0 0 -1 : BAD", "correct 0 0 0x80000000 : BAD", "prefer 0 1 : 3",
            "correct 0 0 0x88 : 0x21");
        inState("correct: the count is sealed: closed", 1).play("seal : true", "correct 0 0 0x12 : STATE",
            "correct 0 0 0x21 : STATE", "prefer 0 1 : 3");
        inState("correct: the count is sealed: withdrawn", 2).play("seal : true", "correct 0 0 0x12 : STATE",
            "voters : 0");
    }

    private static void state() {
        new Run("0 if a batch is open, 1 closed, 2 withdrawn", 2).play("open : 0", "state 0 : 0", "turn 0 0 : -",
            "state 0 : 1", "turn 0 1 : -", "state 0 : 2", "turn 0 2 : -", "state 0 : 1", "seal : true", "state 0 : 1");
    }

    private static void voters() {
        new Run("voters: none", 8).play("voters : 0", "open : 0", "voters : 0", "turn 0 0 : -", "voters : 0");
        full("voters: 12 batches of 6 ballots of 10000").play("voters : 720000", "turn 11 1 : -", "voters : 660000",
            "turn 11 2 : -", "voters : 720000");
        new Run("voters who have no one before another", 2).batch(0, "0 7", "0x11 2").play("voters : 9",
            "prefer 0 1 : 0", "prefer 1 0 : 0");
    }

    private static void prefer() {
        new Run("prefer: none", 2).play("prefer 0 1 : 0", "prefer 1 0 : 0");
        full("prefer: all of 12 batches of 6 ballots of 10000").play("prefer 0 7 : 720000", "prefer 7 0 : 0",
            "prefer 6 7 : 720000", "turn 3 1 : -", "prefer 0 7 : 660000");
        new Run("how many have a before b: not if both have the same place, or none", 4).batch(0, "0x8801 1")
            .play("prefer 2 3 : 0", "prefer 3 2 : 0", "prefer 0 1 : 1", "prefer 1 0 : 0",
                "correct 0 0 0x0011 : 0x8801", "prefer 2 3 : 0", "prefer 3 2 : 0", "prefer 0 1 : 0", "prefer 1 0 : 0");
    }

    private static void seal() {
        new Run("seal: false if it is already", 2).play("seal : true", "seal : false", "seal : false");
        inState("seal: the count is sealed, in all calls that change something", 1).play("open : 1", "seal : true",
            "tie 0 1 : STATE", "open : STATE", "ballot 1 0x21 1 : STATE", "turn 0 1 : STATE", "turn 1 0 : STATE",
            "correct 0 0 0x12 : STATE", "seal : false", "tie 0 1 : STATE", "open : STATE", "ballot 1 0x21 1 : STATE",
            "turn 0 1 : STATE", "turn 1 0 : STATE", "correct 0 0 0x12 : STATE", "state 0 : 1", "state 1 : 0",
            "state 2 : BAD");
        inState("seal: other calls answer as before", 1).play("seal : true", "voters : 3", "prefer 0 1 : 3",
            "strength 0 1 : 3", "way 0 1 : 0x21", "cut 0 1 : 1", "proves 0 1 3 0x21 1 : true", "locked 0 1 : true",
            "state 0 : 1", "without 0 0 1 : 1").row("drawn", 0, 1).row("winner", 0).row("order", 0, 1).row("top", 0);
    }
}
