/** What each promise says, on runs whose answers were worked out by hand. */
public final class PromisesTest extends Elections {
    public static void main(String[] args) {
        promise1();
        promise2();
        promise3();
        promise4();
        promise5();
        promise6();
        promise7();
        promise8();
        promise9();
        promise10();
        promise11();
        promise12();
        promise13();
        promise14();
        promise15();
        promise16();
        promise17();
        promise18();
        promise19();
        promise20();
        firstNamed();
        Run.end();
    }

    private static void promise1() {
        for (int n = 1; n <= 8; n++) {
            new Run("1 n " + n, n).play("drawn " + (n - 1) + " : " + (n - 1), "drawn " + n + " : INDEX",
                "state 0 : BAD", "voters : 0", "open : 0");
        }
        for (int n : new int[] {0, 9, -1, Integer.MIN_VALUE, Integer.MAX_VALUE}) {
            new Run("1 n " + n, n).row("drawn", 0, 1, 2, 3, 4).row("winner", 0, 1, 2, 3, 4)
                .row("order", 0, 1, 2, 3, 4).row("top", 0, 1, 2, 3, 4).play("state 0 : BAD", "prefer 0 5 : BAD");
        }
        new Run("1 alone", 1).row("winner", 0).row("order", 0).row("top", 0).play("prefer 0 0 : BAD");
    }

    private static void promise2() {
        new Run("2 forward and back", 4)
            .play("tie 3 0 : -").row("drawn", 3, 0, 1, 2)
            .play("tie 3 2 : -").row("drawn", 0, 1, 3, 2)
            .play("tie 0 3 : -").row("drawn", 1, 3, 2, 0)
            .play("tie 2 2 : -").row("drawn", 1, 3, 2, 0)
            .play("tie 2 1 : -").row("drawn", 1, 2, 3, 0);
        new Run("2 wrong", 4)
            .play("tie 4 0 : BAD", "tie -1 0 : BAD", "tie 0 4 : BAD", "tie 0 -1 : BAD").row("drawn", 0, 1, 2, 3)
            .play("open : 0", "tie 0 1 : STATE", "tie 4 0 : BAD", "tie 0 4 : BAD").row("drawn", 0, 1, 2, 3);
        new Run("2 sealed", 2).play("seal : true", "tie 0 1 : STATE", "tie 2 1 : BAD").row("drawn", 0, 1);
        new Run("2 all", 8).play("tie 0 7 : -", "tie 7 0 : -").row("drawn", 7, 1, 2, 3, 4, 5, 6, 0);
    }

    private static void promise3() {
        new Run("3", 3).row("drawn", 0, 1, 2).play("tie 2 0 : -").row("drawn", 2, 0, 1)
            .play("drawn 2147483647 : INDEX", "drawn -2147483648 : INDEX", "seal : true").row("drawn", 2, 0, 1);
    }

    private static void promise4() {
        Run run = new Run("4", 3);
        for (int i = 0; i < 12; i++) {
            run.play("open : " + i, "state " + i + " : 0", "state " + (i + 1) + " : BAD");
        }
        run.play("open : STATE", "state 11 : 0", "state 12 : BAD", "turn 0 0 : -", "open : STATE");
        new Run("4 sealed", 3).play("open : 0", "seal : true", "open : STATE", "state 1 : BAD");
    }

    private static void promise5() {
        new Run("5 numbers", 2).play("open : 0", "open : 1", "ballot 0 0x12 1 : 0", "ballot 1 0 10000 : 0",
            "ballot 0 0x88 1 : 1", "ballot 0 0 1 : 2", "ballot 0 0 1 : 3", "ballot 0 0 1 : 4", "ballot 0 0 1 : 5",
            "ballot 0 0 1 : STATE", "ballot 1 0 1 : 1", "ballot 0 0x100 1 : BAD", "ballot 0 0 0 : BAD");
        new Run("5 wrong", 2).play("ballot 0 0 1 : BAD", "open : 0", "ballot 1 0 1 : BAD", "ballot -1 0 1 : BAD",
            "ballot 0 0x9 1 : BAD", "ballot 0 0x90 1 : BAD", "ballot 0 0xf0 1 : BAD", "ballot 0 0x100 1 : BAD",
            "ballot 0 0x80000000 1 : BAD", "ballot 0 -1 1 : BAD", "ballot 0 0 0 : BAD", "ballot 0 0 -1 : BAD",
            "ballot 0 0 10001 : BAD", "ballot 0 0 2147483647 : BAD", "ballot 0 0x21 7 : 0");
        new Run("5 eight", 8).play("open : 0", "ballot 0 0x88888888 1 : 0", "ballot 0 0x87654321 1 : 1",
            "ballot 0 0x97654321 1 : BAD", "ballot 0 0x87654329 1 : BAD", "ballot 0 0xf0000000 1 : BAD",
            "turn 0 0 : -", "voters : 2", "prefer 0 7 : 1", "prefer 7 0 : 0");
        new Run("5 not open", 2).play("open : 0", "turn 0 0 : -", "ballot 0 0 1 : STATE", "ballot 0 9 1 : BAD",
            "turn 0 1 : -", "ballot 0 0 1 : STATE", "turn 0 2 : -", "ballot 0 0 1 : STATE", "voters : 0");
        new Run("5 sealed", 2).play("open : 0", "seal : true", "ballot 0 0 1 : STATE", "ballot 0 0 0 : BAD");
    }

    private static void promise6() {
        Run run = new Run("6", 2).play("open : 0", "ballot 0 0x21 3 : 0");
        turns(run, 0);
        run.play("voters : 0", "turn 0 0 : -");
        turns(run, 1);
        run.play("voters : 3", "prefer 0 1 : 3", "turn 0 1 : -");
        turns(run, 2);
        run.play("voters : 0", "prefer 0 1 : 0", "turn 0 2 : -");
        turns(run, 1);
        run.play("voters : 3", "prefer 0 1 : 3", "turn 0 1 : -", "turn 0 2 : -", "voters : 3");
        new Run("6 sealed", 2).play("open : 0", "seal : true", "turn 0 0 : STATE", "turn 0 3 : BAD", "state 0 : 0");
    }

    /** What a turn is refused for in a state: each turn but the one that begins there. */
    private static void turns(Run run, int state) {
        for (int to = 0; to < 3; to++) {
            if (to != state) {
                run.play("turn 0 " + to + " : STATE");
            }
        }
        run.play("turn 0 3 : BAD", "turn 0 -1 : BAD", "turn 1 0 : BAD", "turn -1 0 : BAD", "state 0 : " + state);
    }

    private static void promise7() {
        ring("7 closed").play("correct 0 2 0x111 : 0x132", "prefer 2 0 : 4", "prefer 0 1 : 5", "prefer 1 2 : 9",
            "prefer 2 3 : 12", "voters : 12", "correct 0 2 0x132 : 0x111", "prefer 2 0 : 7", "prefer 0 1 : 8");
        ring("7 withdrawn").play("turn 0 1 : -", "correct 0 0 0x4000 : 0x321", "prefer 3 0 : 0", "voters : 0",
            "turn 0 2 : -", "prefer 3 0 : 5", "prefer 0 1 : 3", "voters : 12", "correct 0 0 0 : 0x4000");
        ring("7 wrong").play("correct 1 0 0 : BAD", "correct -1 0 0 : BAD", "correct 0 0 9 : BAD",
            "correct 0 0 0x10000 : BAD", "correct 0 3 0 : INDEX", "correct 0 -1 0 : INDEX", "correct 0 3 9 : BAD",
            "prefer 0 1 : 8", "prefer 1 0 : 4");
        new Run("7 open", 2).play("open : 0", "ballot 0 0x12 1 : 0", "correct 0 0 0 : STATE", "correct 0 1 0 : INDEX",
            "correct 0 0 9 : BAD", "correct 0 1 9 : BAD", "turn 0 0 : -", "prefer 1 0 : 1",
            "correct 0 0 0x88 : 0x12", "prefer 1 0 : 0", "prefer 0 1 : 0");
        ring("7 sealed").play("seal : true", "correct 0 0 0 : STATE", "correct 0 3 0 : INDEX", "correct 0 0 9 : BAD",
            "prefer 0 1 : 8");
        new Run("7 eight", 8).batch(0, "0x87654321 1").play("correct 0 0 0x80000000 : 0x87654321",
            "prefer 7 0 : 1", "correct 0 0 0 : 0x80000000");
    }

    private static void promise8() {
        new Run("8", 2).play("state 0 : BAD", "open : 0", "open : 1", "turn 1 0 : -", "state 0 : 0", "state 1 : 1",
            "turn 1 1 : -", "state 1 : 2", "turn 1 2 : -", "state 1 : 1", "state 2 : BAD", "state -1 : BAD",
            "seal : true", "state 1 : 1");
    }

    private static void promise9() {
        new Run("9", 2).play("voters : 0", "open : 0", "ballot 0 0 7 : 0", "voters : 0", "turn 0 0 : -", "voters : 7")
            .batch(1, "0x21 10", "0x12 3").play("voters : 20", "turn 0 1 : -", "voters : 13", "turn 1 1 : -",
            "voters : 0", "turn 0 2 : -", "voters : 7", "correct 1 0 0 : 0x21", "turn 1 2 : -", "voters : 20",
            "without 1 0 0 : 0", "voters : 20", "seal : true", "voters : 20");
        Run most = new Run("9 the most", 8);
        String all = "0x87654321 10000";
        for (int i = 0; i < 12; i++) {
            most.batch(i, all, all, all, all, all, all);
        }
        most.play("voters : 720000", "prefer 0 7 : 720000", "prefer 7 0 : 0", "strength 0 7 : 720000");
    }

    private static void promise10() {
        ring("10").play("prefer 0 1 : 8", "prefer 1 0 : 4", "prefer 1 2 : 9", "prefer 2 1 : 3", "prefer 2 0 : 7",
            "prefer 0 2 : 5", "prefer 0 3 : 12", "prefer 3 0 : 0", "prefer 0 4 : BAD", "prefer 4 0 : BAD",
            "prefer -1 0 : BAD", "prefer 0 -1 : BAD", "prefer 2 2 : BAD", "prefer 4 4 : BAD");
        new Run("10 the same place, and none", 4).batch(0, "0x0881 1", "0x8000 10", "0x1111 100")
            .play("prefer 0 1 : 1", "prefer 1 2 : 0", "prefer 2 1 : 0", "prefer 1 3 : 1", "prefer 3 1 : 10",
            "prefer 3 0 : 10", "prefer 0 3 : 1", "prefer 1 0 : 0");
    }

    private static void promise11() {
        Run run = schulze("11");
        int[][] strengths = {{0, 28, 28, 30, 24}, {25, 0, 28, 33, 24}, {25, 29, 0, 29, 24}, {25, 28, 28, 0, 24},
            {25, 28, 28, 31, 0}};
        for (int a = 0; a < 5; a++) {
            for (int b = 0; b < 5; b++) {
                run.play("strength " + a + " " + b + " : " + (a == b ? "BAD" : strengths[a][b]));
            }
        }
        run.play("strength 0 5 : BAD", "strength 5 0 : BAD", "strength -1 0 : BAD", "strength 0 -1 : BAD");
        run.play("turn 0 1 : -", "turn 1 1 : -", "strength 0 1 : 0");
        ring("11 none").play("strength 3 0 : 0", "strength 0 3 : 12", "strength 0 2 : 8", "strength 1 0 : 7");
        new Run("11 even", 2).batch(0, "0x21 4", "0x12 4").play("strength 0 1 : 0", "strength 1 0 : 0",
            "correct 0 0 0x11 : 0x21", "strength 1 0 : 4", "strength 0 1 : 0");
    }

    private static void promise12() {
        ring("12").play("way 1 0 : 0x132", "way 0 1 : 0x21", "way 0 2 : 0x321", "way 0 3 : 0x41", "way 3 0 : 0",
            "way 0 4 : BAD", "way 4 0 : BAD", "way -1 0 : BAD", "way 0 -1 : BAD", "way 1 1 : BAD");
        schulze("12 longer").play("way 0 1 : 0x2341", "way 0 4 : 0x531", "way 4 0 : 0x125", "way 2 3 : 0x423");
        edges(new Run("12 stronger before shorter", 3), 3, 0, 2, 1, 0, 1, 5, 1, 2, 4)
            .play("strength 0 2 : 14", "way 0 2 : 0x321");
        edges(new Run("12 shorter before least", 4), 4, 0, 1, 5, 1, 3, 5, 0, 3, 5)
            .play("way 0 3 : 0x41");
        edges(new Run("12 least of the same length", 5), 5, 0, 3, 7, 3, 4, 5, 0, 2, 5, 2, 4, 5, 0, 1, 9, 1, 4, 4)
            .play("strength 0 4 : 40", "way 0 4 : 0x531");
        edges(new Run("12 least at the first place", 6), 6, 0, 2, 5, 2, 3, 5, 0, 1, 5, 1, 4, 5, 3, 5, 5, 4, 5, 5)
            .play("way 0 5 : 0x6521");
        edges(new Run("12 drawn order does not matter", 4).play("tie 2 0 : -"), 4, 0, 1, 5, 1, 3, 5, 0, 2, 5, 2, 3, 5)
            .play("way 0 3 : 0x421");
        chain("12 all eight").play("way 0 7 : 0x87654321", "way 7 0 : 0", "way 1 7 : 0x8765432");
    }

    private static void promise13() {
        ring("13").play("cut 1 0 : 14", "cut 0 2 : 9", "cut 0 1 : 9", "cut 3 0 : 8", "cut 2 1 : 12", "cut 0 3 : 1",
            "cut 0 4 : BAD", "cut 4 0 : BAD", "cut -1 0 : BAD", "cut 0 -1 : BAD", "cut 3 3 : BAD");
        schulze("13 longer").play("cut 0 4 : 15", "cut 4 0 : 30", "cut 4 3 : 16", "cut 2 0 : 14");
        chain("13 no way").play("cut 3 0 : 248", "cut 7 0 : 128", "cut 0 7 : 1");
        new Run("13 nothing counted", 3).play("cut 1 2 : 2");
    }

    private static void promise14() {
        ring("14").play("proves 1 0 7 0x132 14 : true", "proves 1 0 6 0x132 14 : false",
            "proves 1 0 8 0x132 14 : false", "proves 1 0 7 0x132 6 : false", "proves 1 0 7 0x132 15 : false",
            "proves 1 0 7 0x132 12 : false", "proves 1 0 7 0x132 30 : false", "proves 1 0 7 0x132 -2 : false",
            "proves 1 0 7 0x132 0x8000000e : false", "proves 1 0 7 0x132 0 : false");
        ring("14 ways").play("proves 1 0 7 0x132132 14 : true", "proves 1 0 7 0x12 14 : false",
            "proves 1 0 7 0x32 14 : false", "proves 1 0 7 0x2 14 : false", "proves 1 0 7 0x13 14 : false",
            "proves 1 0 7 0 14 : false", "proves 1 0 7 0x1032 14 : false", "proves 1 0 7 0x10132 14 : false",
            "proves 1 0 7 0x1320 14 : false", "proves 1 0 7 0x152 14 : false", "proves 1 0 7 0x192 14 : false",
            "proves 1 0 7 0x1322 14 : false", "proves 1 0 7 0x1132 14 : false", "proves 1 0 7 0x13213213 14 : false",
            "proves 0 1 8 0x21321321 9 : false", "proves 0 2 8 0x321 9 : true", "proves 0 2 7 0x21321321 9 : false");
        ring("14 none").play("proves 3 0 0 0 8 : true", "proves 3 0 0 0 9 : false", "proves 3 0 0 0x14 8 : false",
            "proves 3 0 -1 0 8 : false", "proves 3 0 1 0 8 : false", "proves 0 3 0 0 7 : false",
            "proves 3 0 0 0 24 : false", "proves 3 0 -2147483648 0 8 : false", "proves 3 0 2147483647 0 8 : false");
        ring("14 wrong").play("proves 0 0 0 0 1 : BAD", "proves 4 0 0 0 1 : BAD", "proves 0 4 0 0 1 : BAD",
            "proves -1 0 0 0 1 : BAD", "proves 0 -1 0 0 1 : BAD");
        new Run("14 other sets do", 3).batch(0, "0x321 5").play("proves 0 1 5 0x21 1 : true",
            "proves 0 1 5 0x21 5 : true", "proves 0 2 5 0x321 1 : true", "proves 0 2 5 0x31 3 : true",
            "proves 2 0 0 0 4 : true", "proves 2 0 0 0 6 : true");
        chain("14 all eight").play("proves 0 7 8 0x87654321 1 : true", "proves 0 7 8 0x87654321 127 : true",
            "proves 0 7 9 0x87654321 127 : false", "proves 0 7 7 0x87654321 127 : false",
            "proves 0 7 8 0x7654321 127 : false", "proves 0 6 8 0x87654321 1 : false");
        edges(new Run("14 round the ring", 3), 3, 0, 1, 1, 1, 2, 1, 2, 0, 1).play("proves 1 0 4 0x132 2 : true",
            "proves 1 0 4 0x132132 2 : true", "proves 1 2 4 0x32132132 3 : true", "proves 1 2 4 0x32 2 : true");
    }

    private static void promise15() {
        schulze("15").row("winner", 4);
        ring("15 ring").row("winner", 0);
        tennessee("15 none beats her").row("winner", 1);
        new Run("15 by numbers", 3).play("tie 2 0 : -").row("winner", 0, 1, 2).batch(0, "0x101 3")
            .row("winner", 0, 2).play("turn 0 1 : -").row("winner", 0, 1, 2);
        edges(new Run("15 a ring of the same", 4), 4, 1, 2, 2, 2, 3, 2, 3, 1, 2, 1, 0, 9, 2, 0, 1, 3, 0, 1)
            .row("winner", 1, 2, 3).play("winner 2147483647 : INDEX", "winner -2147483648 : INDEX");
    }

    private static void promise16() {
        ring("16").play("locked 0 1 : true", "locked 1 0 : false", "locked 1 2 : true", "locked 2 0 : false",
            "locked 0 2 : false", "locked 0 3 : true", "locked 2 3 : true", "locked 3 2 : false", "locked 0 4 : BAD",
            "locked 4 0 : BAD", "locked -1 0 : BAD", "locked 0 -1 : BAD", "locked 1 1 : BAD");
        sameDirect("16 less against", "tie 0 0 : -").play("locked 2 0 : true", "locked 0 1 : true",
            "locked 1 2 : false");
        sameDirect("16 drawn", "tie 1 0 : -").play("locked 2 0 : true", "locked 0 1 : false", "locked 1 2 : true");
        edges(new Run("16 over several", 4), 4, 0, 1, 9, 1, 2, 8, 2, 3, 7, 3, 0, 6)
            .play("locked 0 1 : true", "locked 1 2 : true", "locked 2 3 : true", "locked 3 0 : false");
        edges(new Run("16 what was refused leads nowhere", 4), 4, 0, 1, 9, 1, 2, 8, 2, 0, 7, 0, 3, 5, 3, 2, 6)
            .play("locked 2 0 : false", "locked 3 2 : true", "locked 0 3 : true");
        sameRing("16 drawn 0", 0).play("locked 0 1 : true", "locked 1 2 : true", "locked 2 0 : false");
        sameRing("16 drawn 1", 1).play("locked 0 1 : false", "locked 1 2 : true", "locked 2 0 : true");
        sameRing("16 drawn 2", 2).play("locked 0 1 : true", "locked 1 2 : false", "locked 2 0 : true");
    }

    /** A ring of the same direct and the same against it, one coming first and then in turn. */
    private static Run sameRing(String title, int first) {
        Run run = new Run(title, 3).play("tie " + (first + 1) % 3 + " 0 : -", "tie " + first + " 0 : -");
        return edges(run, 3, 0, 1, 1, 1, 2, 1, 2, 0, 1);
    }

    private static void promise17() {
        tennessee("17").row("order", 1, 2, 3, 0);
        schulze("17 as by locked").row("order", 0, 2, 4, 1, 3);
        new Run("17 drawn", 4).play("tie 2 0 : -", "tie 0 3 : -").row("order", 2, 1, 3, 0)
            .batch(0, "0x0011 1").row("order", 1, 0, 2, 3).play("turn 0 1 : -").row("order", 2, 1, 3, 0);
        sameDirect("17 less against", "tie 0 0 : -").row("order", 2, 0, 1);
        sameDirect("17 drawn in the lock", "tie 1 0 : -").row("order", 1, 2, 0);
        sameRing("17 ring 1", 1).row("order", 1, 2, 0);
        edges(new Run("17 again from the first", 4).play("tie 3 0 : -"), 4, 2, 3, 1).row("order", 0, 1, 2, 3);
        new Run("17 index", 8).play("order 8 : INDEX", "order 2147483647 : INDEX", "order -2147483648 : INDEX");
    }

    private static void promise18() {
        ring("18").row("top", 0, 1, 2);
        schulze("18 all").row("top", 0, 1, 2, 3, 4);
        tennessee("18 one").row("top", 1);
        new Run("18 even ones", 4).play("tie 3 0 : -").batch(0, "0x1010 3").row("top", 1, 3)
            .batch(1, "0x0100 2").row("top", 1, 3).batch(2, "0x0100 1").row("top", 1, 2, 3)
            .batch(3, "0x0100 1").row("top", 2);
        new Run("18 even with one of them", 3).batch(0, "0x012 1", "0x021 1", "0x132 1", "0x200 1")
            .play("prefer 0 1 : 2").row("top", 0, 1, 2).play("top 2147483647 : INDEX");
    }

    private static void promise19() {
        Run run = schulze("19");
        run.play("without 1 0 0 : 0", "without 1 0 1 : INDEX", "without 1 1 0 : 0", "without 1 1 4 : 3",
            "without 1 1 5 : INDEX", "without 1 2 0 : 0", "without 1 2 -1 : INDEX");
        run.row("winner", 4).row("order", 0, 2, 4, 1, 3).play("voters : 45", "state 1 : 1");
        new Run("19 as it were", 3).batch(0, "0x321 3").batch(1, "0x132 4").row("winner", 2).row("order", 2, 0, 1)
            .row("top", 2).play("without 1 0 0 : 0", "without 1 0 1 : INDEX", "without 1 1 1 : 1", "without 1 2 0 : 0",
            "without 1 2 1 : INDEX", "without 0 0 0 : 2", "without 0 1 1 : 0", "without 0 2 0 : 2",
            "turn 1 1 : -", "without 1 0 0 : 0", "without 0 0 2 : 2", "without 0 1 2 : 2", "without 0 2 2 : 2",
            "without 0 2 3 : INDEX", "turn 0 1 : -", "without 1 1 0 : 0", "turn 1 2 : -", "without 0 0 0 : 2");
        new Run("19 open", 2).batch(0, "0x21 1").play("open : 1", "ballot 1 0x21 5 : 0", "without 1 0 0 : 0",
            "without 1 0 1 : INDEX", "without 1 1 0 : 0", "without 1 2 1 : INDEX", "without 0 0 1 : 1",
            "without 0 2 1 : 1", "state 1 : 0", "seal : true", "without 0 0 1 : 1", "without 1 0 1 : INDEX");
        new Run("19 wrong", 2).play("without 0 0 0 : BAD", "open : 0", "without 0 3 0 : BAD", "without 0 -1 0 : BAD",
            "without 1 0 0 : BAD", "without -1 0 0 : BAD", "without 0 3 9 : BAD", "without 1 0 9 : BAD",
            "without 0 0 2 : INDEX", "without 0 1 2 : INDEX", "without 0 2 2 : INDEX", "without 0 0 -1 : INDEX",
            "without 0 1 -1 : INDEX", "without 0 2 -1 : INDEX");
    }

    private static void promise20() {
        new Run("20", 2).play("open : 0", "ballot 0 0x21 2 : 0", "turn 0 0 : -", "seal : true", "seal : false",
            "seal : false", "turn 0 1 : STATE", "correct 0 0 0 : STATE", "open : STATE", "ballot 0 0 1 : STATE",
            "tie 0 0 : STATE", "voters : 2", "prefer 0 1 : 2", "strength 0 1 : 2", "way 0 1 : 0x21", "cut 0 1 : 1",
            "proves 0 1 2 0x21 1 : true", "locked 0 1 : true", "without 0 0 1 : 1", "drawn 0 : 0")
            .row("winner", 0).row("order", 0, 1).row("top", 0);
    }

    /** Of several exceptions the one named first is thrown. */
    private static void firstNamed() {
        new Run("first named", 2).play("open : 0", "turn 0 0 : -", "seal : true", "tie 2 0 : BAD", "tie 0 2 : BAD",
            "ballot 1 0 1 : BAD", "ballot 0 9 1 : BAD", "ballot 0 0 0 : BAD", "turn 1 0 : BAD", "turn 0 3 : BAD",
            "correct 1 0 0 : BAD", "correct 0 0 9 : BAD", "correct 0 0 0 : INDEX", "without 0 3 5 : BAD");
    }
}
