/**
 * The boundaries that the document names for who comes first: promises 11 to 19. Each has a run of
 * its own, whose title is the sentence.
 */
public final class AnswerEdgesTest extends Elections {
    private static final String[] ASKED = {"winner", "order", "top"};

    public static void main(String[] args) {
        strength();
        noWay();
        way();
        cut();
        provesStrength();
        provesWay();
        provesSet();
        winner();
        lockedFirst();
        lockedUnless();
        order();
        top();
        index();
        withoutWhat();
        withoutIndex();
        withoutInState();
        withoutLeavesAll();
        Run.end();
    }

    private static void strength() {
        new Run("strength: 0 if there is none: nothing counted", 2).play("strength 0 1 : 0", "strength 1 0 : 0");
        ring("strength: 0 if there is none: counted").play("strength 3 0 : 0", "strength 3 1 : 0", "strength 3 2 : 0",
            "strength 2 3 : 12");
        new Run("strength: the least there is", 2).batch(0, "0x21 1").play("strength 0 1 : 1", "strength 1 0 : 0");
        full("strength: the most there is").play("strength 0 7 : 720000", "strength 7 0 : 0", "strength 0 1 : 720000");
        ring("as strong as the least of these").play("strength 1 0 : 7", "strength 0 2 : 8", "strength 2 1 : 7");
        chain("strength: a way of all eight").play("strength 0 7 : 8", "strength 0 6 : 8", "strength 7 0 : 0",
            "strength 1 0 : 0", "turn 6 1 : -", "strength 0 7 : 0", "strength 0 6 : 7");
        backwards("strength: a way of all eight, by falling numbers").play("strength 7 0 : 8", "strength 0 7 : 0");
    }

    private static void noWay() {
        new Run("way: 0 if there is no way: nothing counted", 2).play("way 0 1 : 0", "way 1 0 : 0");
        new Run("way: 0 if there is no way: as many for both", 2).batch(0, "0x21 1", "0x12 1").play("way 0 1 : 0",
            "way 1 0 : 0");
        ring("way: 0 if there is no way: counted").play("way 3 0 : 0", "way 3 2 : 0", "way 0 3 : 0x41");
    }

    private static void way() {
        new Run("a row of candidates, at least two", 2).batch(0, "0x21 1").play("way 0 1 : 0x21", "way 1 0 : 0");
        chain("way: all eight").play("way 0 7 : 0x87654321", "way 7 0 : 0", "way 1 7 : 0x8765432", "way 6 7 : 0x87",
            "turn 6 1 : -", "way 0 7 : 0", "way 0 6 : 0x7654321");
        backwards("way: all eight, by falling numbers").play("way 7 0 : 0x12345678", "way 0 7 : 0", "way 1 0 : 0x12");
        full("way: of several the shortest: two of eight").play("way 0 7 : 0x81", "way 6 7 : 0x87", "way 7 6 : 0");
        edges(new Run("way: the strongest, though longer", 4), 4, 0, 3, 2, 0, 1, 3, 1, 2, 3, 2, 3, 3)
            .play("strength 0 3 : 14", "way 0 3 : 0x4321");
        edges(new Run("way: as strong, so the shortest", 4), 4, 0, 3, 3, 0, 1, 4, 1, 2, 3, 2, 3, 4)
            .play("strength 0 3 : 17", "way 0 3 : 0x41");
        edges(new Run("way: the shortest goes before the least candidate", 5), 5, 0, 1, 1, 1, 2, 1, 2, 4, 1, 0, 3, 1,
            3, 4, 1).play("way 0 4 : 0x541");
        edges(new Run("way: of several the one with the least candidate", 4), 4, 0, 2, 1, 2, 3, 1, 0, 1, 1, 1, 3, 1)
            .play("way 0 3 : 0x421");
        edges(new Run("way: the least candidate of the strongest alone, first step", 4), 4, 0, 1, 1, 1, 3, 2, 0, 2, 2,
            2, 3, 2).play("way 0 3 : 0x431");
        edges(new Run("way: the least candidate of the strongest alone, last step", 4), 4, 0, 1, 2, 1, 3, 1, 0, 2, 2,
            2, 3, 2).play("way 0 3 : 0x431");
        edges(new Run("way: at the first place where they differ", 6), 6, 0, 1, 1, 1, 4, 1, 4, 5, 1, 0, 2, 1, 2, 3, 1,
            3, 5, 1).play("way 0 5 : 0x6521");
        edges(new Run("way: at a later place where they differ", 5), 5, 0, 3, 1, 3, 2, 1, 3, 1, 1, 2, 4, 1, 1, 4, 1)
            .play("way 0 4 : 0x5241");
    }

    private static void cut() {
        new Run("cut: and a: nothing counted", 8).play("cut 0 1 : 1", "cut 7 0 : 128", "cut 3 4 : 8");
        ring("cut: ways that are stronger than strength a b, not as strong").play("cut 0 1 : 9", "cut 1 2 : 10",
            "cut 2 0 : 12", "cut 1 0 : 14", "cut 0 2 : 9", "cut 0 3 : 1");
        ring("cut: strength 0: all to whom a way leads").play("cut 3 0 : 8").batch(1, "0x4000 12")
            .play("strength 0 3 : 0", "cut 0 3 : 7", "cut 2 3 : 7");
        full("cut: all but one, and one alone").play("cut 1 0 : 254", "cut 6 0 : 192", "cut 7 0 : 128", "cut 0 7 : 1");
        chain("cut: as strong as strength a b, over several").play("cut 0 7 : 1", "cut 7 0 : 128", "cut 1 0 : 254");
    }

    private static void provesStrength() {
        ring("proves: s is the strength, one less, one more").play("proves 1 0 7 0x132 14 : true",
            "proves 1 0 6 0x132 14 : false", "proves 1 0 8 0x132 14 : false", "proves 1 0 1 0x132 14 : false");
        ring("proves: s is 0 and way 0").play("proves 3 0 0 0 8 : true", "proves 3 0 0 1 8 : false",
            "proves 3 0 0 0x14 8 : false", "proves 3 0 0 -1 8 : false", "proves 0 3 0 0x41 1 : false",
            "proves 0 3 0 0 1 : false");
        ring("proves: or s is above 0: way 0").play("proves 3 0 1 0 8 : false", "proves 0 3 12 0 1 : false",
            "proves 0 3 1 0 1 : false");
        ring("proves: or s is above 0: below 0").play("proves 3 0 -1 0 8 : false", "proves 0 3 -1 0x41 1 : false",
            "proves 0 3 -12 0x41 1 : false", "proves 0 3 -2147483648 0x41 1 : false",
            "proves 3 0 -2147483648 0 8 : false", "proves 0 3 2147483647 0x41 1 : false");
        new Run("proves: s is 1", 2).batch(0, "0x21 1").play("proves 0 1 1 0x21 1 : true",
            "proves 0 1 0 0 1 : false", "proves 0 1 0 0x21 1 : false", "proves 0 1 2 0x21 1 : false",
            "proves 1 0 0 0 2 : true", "proves 1 0 1 0x12 2 : false");
        full("proves: s is the most there is").play("proves 0 7 720000 0x81 1 : true",
            "proves 0 7 720001 0x81 1 : false", "proves 0 7 719999 0x81 1 : false",
            "proves 0 7 720000 0x87654321 127 : true");
        new Run("proves: nothing counted", 8).play("proves 0 7 0 0 1 : true", "proves 0 7 0 0 127 : true",
            "proves 7 0 0 0 254 : true", "proves 0 7 1 0x81 1 : false", "proves 0 7 0 0x81 1 : false");
        ring("proves: no such candidate, with a proof that is wrong").play("proves 0 4 -1 -1 -1 : BAD",
            "proves -1 0 -1 -1 -1 : BAD", "proves 1 1 7 0x132 14 : BAD");
    }

    private static void provesWay() {
        ring("proves: way is a way from a").play("proves 0 2 8 0x321 9 : true", "proves 0 2 8 0x32 9 : false",
            "proves 0 2 8 0x322 9 : false", "proves 0 2 8 0x324 9 : false", "proves 0 2 8 0x325 9 : false",
            "proves 0 2 8 0x320 9 : false", "proves 0 2 8 0x3213 9 : false");
        ring("proves: way is a way to b").play("proves 0 2 8 0x21 9 : false", "proves 0 2 8 0x4321 9 : false",
            "proves 0 2 8 0x41 9 : false");
        ring("proves: way has at least two").play("proves 0 2 8 0x1 9 : false", "proves 0 2 8 0x3 9 : false",
            "proves 0 2 8 0 9 : false");
        ring("proves: way has candidates alone").play("proves 0 2 8 0x351 9 : false", "proves 0 2 8 0xf21 9 : false",
            "proves 0 2 8 0x391 9 : false", "proves 0 2 8 0x5 9 : false", "proves 0 2 8 -1 9 : false");
        ring("proves: way is told as by way(): no gap").play("proves 0 2 8 0x3021 9 : false",
            "proves 0 2 8 0x3201 9 : false", "proves 0 2 8 0x3210 9 : false", "proves 0 2 8 0x30000021 9 : false",
            "proves 0 2 8 0x30000321 9 : false", "proves 0 2 8 0x80000321 9 : false");
        ring("proves: the direct of each one over the one behind it is above 0").play("proves 0 2 8 0x31 9 : false",
            "proves 0 2 8 0x341 9 : false", "proves 0 2 8 0x3211 9 : false", "proves 0 2 8 0x3321 9 : false",
            "proves 0 2 8 0x3221 9 : false", "proves 0 2 8 0x32321 9 : false");
        chain("proves: way has all eight").play("proves 0 7 8 0x87654321 1 : true",
            "proves 0 7 9 0x87654321 127 : false", "proves 0 7 7 0x87654321 127 : false",
            "proves 0 7 8 0x07654321 127 : false", "proves 0 6 8 0x87654321 1 : false",
            "proves 0 7 8 0x77654321 127 : false", "proves 0 7 8 0x97654321 127 : false");
        ring("proves: at least as strong as s: the first step, the last one").play("proves 0 1 8 0x21 9 : true",
            "proves 0 2 9 0x321 11 : false", "proves 0 2 8 0x321 9 : true", "proves 1 0 8 0x132 14 : false",
            "proves 1 0 7 0x132 14 : true");
        evenRing("proves: way may be any that is as strong as s", 0, 1, 2).play("proves 0 2 2 0x321 1 : true",
            "proves 0 2 2 0x321 3 : true", "proves 0 1 2 0x21 1 : true", "proves 0 1 2 0x21321 1 : true",
            "proves 0 1 2 0x21321321 1 : true", "proves 0 2 2 0x321321 1 : true");
    }

    private static void provesSet() {
        ring("proves: in set there is a").play("proves 1 0 7 0x132 14 : true", "proves 1 0 7 0x132 12 : false",
            "proves 1 0 7 0x132 0 : false", "proves 3 0 0 0 0 : false");
        ring("proves: in set there is not b").play("proves 1 0 7 0x132 15 : false", "proves 3 0 0 0 9 : false",
            "proves 3 0 0 0 15 : false");
        ring("proves: none in it has a direct above s over one who is not in it").play(
            "proves 1 0 7 0x132 2 : false", "proves 1 0 7 0x132 6 : false", "proves 1 0 7 0x132 10 : false",
            "proves 0 2 8 0x321 1 : false", "proves 0 2 8 0x321 11 : false", "proves 0 2 8 0x321 9 : true");
        chain("proves: a direct of s, not above it").play("proves 0 7 8 0x87654321 1 : true",
            "proves 0 7 8 0x87654321 5 : true", "proves 0 7 8 0x87654321 85 : true",
            "proves 0 7 8 0x87654321 127 : true");
        ring("proves: set is a sum of 2^c of candidates").play("proves 1 0 7 0x132 30 : false",
            "proves 1 0 7 0x132 46 : false", "proves 1 0 7 0x132 270 : false", "proves 1 0 7 0x132 65550 : false",
            "proves 1 0 7 0x132 0x8000000e : false", "proves 1 0 7 0x132 -2 : false", "proves 3 0 0 0 24 : false");
        new Run("proves: set is a sum of 2^c of candidates, of eight", 8).play("proves 0 7 0 0 127 : true",
            "proves 7 0 0 0 128 : true", "proves 0 7 0 0 257 : false", "proves 7 0 0 0 0x80000080 : false");
    }

    private static void winner() {
        evenRing("not below for any other b: the same both ways", 0, 1, 2).play("strength 0 1 : 2", "strength 1 0 : 2")
            .row("winner", 0, 1, 2);
        new Run("not below for any other b: below for one", 3).batch(0, "0x321 2", "0x132 1", "0x213 1")
            .play("strength 0 1 : 3", "strength 1 0 : 0", "strength 2 0 : 0").row("winner", 0);
        new Run("not below for any other b: one voter makes it", 2).batch(0, "0x21 5", "0x12 4").row("winner", 0)
            .batch(1, "0x12 1").row("winner", 0, 1).batch(2, "0x12 1").row("winner", 1);
        new Run("winner: by rising numbers", 3).play("tie 2 0 : -", "tie 0 2 : -").batch(0, "0x101 1")
            .row("winner", 0, 2);
        backwards("winner: the last one alone").row("winner", 7);
        new Run("winner: the only candidate", 1).row("winner", 0).batch(0, "0 1").row("winner", 0);
    }

    private static void lockedFirst() {
        new Run("locked: nothing counted", 2).play("locked 0 1 : false", "locked 1 0 : false");
        ring("locked: those with more direct first").play("locked 0 1 : true", "locked 1 2 : true",
            "locked 2 0 : false", "locked 0 2 : false");
        edges(new Run("locked: those with more direct first, whatever was drawn", 3).play("tie 2 0 : -"), 3, 0, 1, 2,
            1, 2, 3, 2, 0, 1).play("locked 0 1 : true", "locked 1 2 : true", "locked 2 0 : false");
        new Run("locked: those with more direct first, though more are against", 3)
            .batch(0, "0x132 3", "0x221 2", "0x212 4").play("prefer 0 1 : 5", "prefer 1 2 : 4", "prefer 2 0 : 3",
                "prefer 1 0 : 4", "prefer 2 1 : 3", "prefer 0 2 : 2", "locked 0 1 : true", "locked 1 2 : true",
                "locked 2 0 : false");
        sameDirect("locked: of those with the same those with less prefer b a", "tie 0 0 : -").play(
            "locked 2 0 : true", "locked 0 1 : true", "locked 1 2 : false");
        sameDirect("locked: less prefer b a, then the drawn order", "tie 1 0 : -").play("locked 2 0 : true",
            "locked 0 1 : false", "locked 1 2 : true");
        drawnRing(0, 1, 2, true, true, false);
        drawnRing(1, 0, 2, true, true, false);
        drawnRing(0, 2, 1, true, false, true);
        drawnRing(2, 0, 1, true, false, true);
        drawnRing(1, 2, 0, false, true, true);
        drawnRing(2, 1, 0, false, true, true);
    }

    /**
     * That of two pairs with the same a the one goes first whose b does can't be seen: neither ever
     * keeps the other from being locked.
     */
    private static void drawnRing(int first, int second, int third, boolean zeroOne, boolean oneTwo, boolean twoZero) {
        evenRing("locked: the one whose a comes first in the drawn order " + first + second + third, first, second,
            third).play("locked 0 1 : " + zeroOne, "locked 1 2 : " + oneTwo, "locked 2 0 : " + twoZero,
            "locked 1 0 : false", "locked 2 1 : false", "locked 0 2 : false");
    }

    private static void lockedUnless() {
        edges(new Run("locked: unless one already comes from b to a: over all eight", 8), 8, 7, 0, 1, 0, 1, 2, 1, 2, 2,
            2, 3, 2, 3, 4, 2, 4, 5, 2, 5, 6, 2, 6, 7, 2).play("strength 7 0 : 16", "locked 7 0 : false",
            "locked 0 1 : true", "locked 6 7 : true").row("order", 0, 1, 2, 3, 4, 5, 6, 7);
        edges(new Run("locked: unless one already comes from b to a: not yet", 8), 8, 7, 0, 3, 0, 1, 2, 1, 2, 2,
            2, 3, 2, 3, 4, 2, 4, 5, 2, 5, 6, 2, 6, 7, 1).play("strength 7 0 : 19", "locked 7 0 : true",
            "locked 0 1 : true", "locked 6 7 : false").row("order", 7, 0, 1, 2, 3, 4, 5, 6);
        edges(new Run("locked: by pairs that are locked, not by refused ones", 4), 4, 0, 1, 9, 1, 2, 8, 2, 0, 7, 0, 3,
            5, 3, 2, 6).play("locked 2 0 : false", "locked 3 2 : true", "locked 0 3 : true");
        edges(new Run("locked: one comes from b to a by two ways", 4), 4, 1, 3, 9, 2, 3, 8, 0, 1, 7, 0, 2, 6, 3, 0, 5)
            .play("locked 1 3 : true", "locked 2 3 : true", "locked 0 1 : true", "locked 0 2 : true",
                "locked 3 0 : false").row("order", 0, 1, 2, 3);
        edges(new Run("locked: parts that were locked apart", 4), 4, 0, 1, 9, 2, 3, 8, 1, 2, 7, 3, 0, 6)
            .play("locked 0 1 : true", "locked 2 3 : true", "locked 1 2 : true", "locked 3 0 : false");
    }

    private static void order() {
        new Run("order: nothing counted: the drawn order", 4).play("tie 3 0 : -", "tie 0 3 : -")
            .row("order", 3, 1, 2, 0);
        edges(new Run("order: the first one by the drawn order, again", 4).play("tie 3 0 : -"), 4, 0, 3, 1)
            .row("order", 0, 3, 1, 2);
        edges(new Run("order: over whom none of those left is locked", 4).play("tie 3 0 : -"), 4, 2, 3, 1)
            .row("order", 0, 1, 2, 3);
        chain("order: each behind another").row("order", 0, 1, 2, 3, 4, 5, 6, 7);
        backwards("order: each behind another, by falling numbers").row("order", 7, 6, 5, 4, 3, 2, 1, 0);
        new Run("order: the only candidate", 1).row("order", 0).batch(0, "0x1 1").row("order", 0);
    }

    private static void top() {
        new Run("top: nothing counted: all", 8).row("top", upTo(8));
        full("top: one at least").row("top", 0);
        backwards("top: even with some: all").row("top", upTo(8));
        ring("top: the least set").row("top", 0, 1, 2);
        new Run("top: each has a direct above 0 over each that is not in it: one voter makes it", 3)
            .batch(0, "0x001 2", "0x010 1").row("top", 0).batch(1, "0x100 1").row("top", 0)
            .batch(2, "0x100 1").row("top", 0, 2).batch(3, "0x100 1").row("top", 2);
        new Run("top: even with one of it, so in it", 3).batch(0, "0x012 1", "0x021 1", "0x132 1", "0x200 1")
            .play("prefer 0 1 : 2").row("top", 0, 1, 2);
        new Run("top: by rising numbers", 4).play("tie 3 0 : -").batch(0, "0x1010 1").row("top", 1, 3);
        new Run("top: the only candidate", 1).row("top", 0);
    }

    /** All candidates, and one alone: numbers behind and before them, and far away. */
    private static void index() {
        for (String name : ASKED) {
            for (int n = 1; n <= 8; n++) {
                refuse(new Run(name + ": index out of bounds: there is none, of " + n, n), 0, n - 1, "INDEX",
                    x -> name + " " + x).row(name, upTo(n));
            }
            int last = name.equals("order") ? 7 : 0;
            refuse(full(name + ": index out of bounds: there is none, one comes first"), 0, last, "INDEX",
                x -> name + " " + x).row(name, upTo(last + 1));
        }
    }

    private static void withoutWhat() {
        for (int state = 0; state < 3; state++) {
            Run run = inState("without: also if what is none of these: state " + state, state);
            refuse(run, 0, 2, "BAD", x -> "without 0 " + x + " 0");
            refuse(run, 0, 2, "BAD", x -> "without 0 " + x + " 9");
            run.play("without 0 0 0 : 0", "without 0 1 0 : 0", "without 0 2 0 : 0");
        }
        Run three = new Run("without: what = 0 winner, 1 order, 2 top", 3).play("tie 2 0 : -")
            .batch(0, "0x321 1", "0x132 1", "0x213 1").batch(1, "0x333 1");
        three.play("without 1 0 0 : 0", "without 1 0 2 : 2", "without 1 1 0 : 2", "without 1 1 1 : 0",
            "without 1 1 2 : 1", "without 1 2 0 : 0", "without 1 2 2 : 2");
        ring("without: winners are not the top").batch(1, "0 1").play("without 1 0 0 : 0", "without 1 0 1 : INDEX",
            "without 1 2 1 : 1", "without 1 2 2 : 2", "without 1 2 3 : INDEX", "without 1 1 3 : 3");
    }

    private static void withoutIndex() {
        for (int what = 0; what < 3; what++) {
            String call = " " + what + " ";
            refuse(full("without: index out of bounds: as they, one: what" + call), 0, what == 1 ? 7 : 0, "INDEX",
                x -> "without 11" + call + x).play("without 11" + call + "0 : 0");
            refuse(new Run("without: index out of bounds: as they, all: what" + call, 8).batch(0, "0x87654321 1"), 0, 7,
                "INDEX", x -> "without 0" + call + x).play("without 0" + call + "7 : 7");
        }
        inState("without: index out of bounds as they would tell, not as they tell", 1).row("winner", 0).row("top", 0)
            .play("without 0 0 1 : 1", "without 0 2 1 : 1", "without 0 0 2 : INDEX", "without 0 2 2 : INDEX")
            .batch(1, "0x12 3").row("winner", 0, 1).row("top", 0, 1).play("without 0 0 0 : 1",
                "without 0 0 1 : INDEX", "without 1 0 0 : 0", "without 1 0 1 : INDEX", "without 0 2 0 : 1",
                "without 0 2 1 : INDEX", "without 1 2 1 : INDEX");
    }

    private static void withoutInState() {
        for (int state = 0; state < 3; state++) {
            inState("without: if a batch were withdrawn (or never closed): state " + state, state)
                .play("without 0 0 1 : 1", "without 0 2 1 : 1", "without 0 1 1 : 1").batch(1, "0x12 1")
                .play("without 0 0 0 : 1", "without 0 0 1 : INDEX", "without 0 1 0 : 1", "without 0 2 0 : 1",
                    "without 0 2 1 : INDEX", "without 1 0 0 : 0", "without 1 0 1 : " + (state == 1 ? "INDEX" : "1"));
        }
        for (int state = 0; state < 3; state++) {
            inState("without: a batch that does not count is not taken out: state " + state, state)
                .batch(1, "0x21 1").play("without 0 0 0 : 0", "without 0 0 1 : INDEX", "without 0 1 0 : 0",
                    "without 0 2 0 : 0", "without 0 2 1 : INDEX");
        }
        inState("without: a batch that was corrected", 1).batch(1, "0x21 1").play("correct 0 0 0x12 : 0x21",
            "without 0 0 0 : 0", "without 0 0 1 : INDEX", "without 1 0 0 : 1", "without 1 0 1 : INDEX");
        inState("without: a sealed count", 1).play("seal : true", "without 0 0 1 : 1", "without 0 0 2 : INDEX");
        Run each = new Run("without: each of 12", 2);
        for (int batch = 0; batch < 12; batch++) {
            each.batch(batch, batch < 6 ? "0x21 1" : "0x12 1");
        }
        for (int batch = 0; batch < 12; batch++) {
            each.play("without " + batch + " 0 0 : " + (batch < 6 ? 1 : 0), "without " + batch + " 0 1 : INDEX",
                "without " + batch + " 1 0 : " + (batch < 6 ? 1 : 0), "without " + batch + " 2 1 : INDEX");
        }
    }

    private static void withoutLeavesAll() {
        inState("without: what would be, not what is", 1).batch(1, "0x12 1").play("without 0 0 0 : 1",
            "without 0 1 0 : 1", "without 0 2 0 : 1", "voters : 4", "prefer 0 1 : 3", "prefer 1 0 : 1",
            "strength 0 1 : 3", "way 0 1 : 0x21", "cut 0 1 : 1", "locked 0 1 : true", "state 0 : 1", "state 1 : 1")
            .row("winner", 0).row("order", 0, 1).row("top", 0).play("turn 0 1 : -", "voters : 1", "turn 0 2 : -");
    }
}
