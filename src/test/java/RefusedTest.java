import java.util.ArrayList;
import java.util.List;

/**
 * Of several exceptions the one named first is thrown, for all reasons to refuse a call that can
 * meet; and a call that throws changes nothing: an object that refused it is held against a twin
 * that was never asked, at once and until the end of a run.
 */
public final class RefusedTest {
    private static final String BAD = "BAD";
    private static final String INDEX = "INDEX";
    private static final String STATE = "STATE";
    private static final int N = 3;

    /** All of it is taken; batches are open, closed, withdrawn, corrected, full and empty on the way. */
    private static final String[] STORY = {"tie 2 0", "tie 0 1", "open", "ballot 0 0x321 3", "ballot 0 0x132 2",
        "turn 0 0", "open", "ballot 1 0x213 4", "ballot 1 0x021 1", "turn 1 0", "correct 0 1 0x231", "turn 1 1",
        "correct 1 0 0x123", "open", "ballot 2 0x8 1", "ballot 2 0x80 2", "ballot 2 0x800 3", "ballot 2 0 4",
        "ballot 2 0x111 5", "ballot 2 0x012 10000", "open", "turn 3 0", "turn 1 2", "turn 2 0", "turn 2 1",
        "correct 2 5 0x210", "turn 2 2", "turn 0 1", "turn 0 2", "seal", "seal"};

    /** As many batches as there may be: so behind the twelfth one no other is opened. */
    private static final String[] TWELVE = {"tie 1 0", "open", "ballot 0 0x321 2", "turn 0 0", "open",
        "ballot 1 0x213 3", "turn 1 0", "turn 1 1", "open", "open", "open", "open", "open", "open", "open", "open",
        "open", "open", "ballot 2 0x132 4", "ballot 11 0x312 1", "turn 2 0", "turn 11 0", "turn 1 2", "seal"};

    private static int asked = 0;
    private static int wrong = 0;

    public static void main(String[] args) {
        tie();
        ballot();
        turn();
        correct();
        without();
        List<String> calls = calls();
        for (int at = 0; at <= STORY.length; at++) {
            changesNothing(STORY, at, calls);
        }
        for (int at = 0; at <= TWELVE.length; at++) {
            changesNothing(TWELVE, at, List.of("open", "tie 0 0", "state 12", "turn 12 0", "ballot 12 0 1"));
        }
        System.out.println(asked + " refused calls that change nothing, " + wrong + " wrong");
        if (wrong != 0) {
            System.exit(1);
        }
        Run.end();
    }

    /** The exception that the document names first of those for which there is a reason. */
    private static String first(boolean bad, boolean index, boolean state, String answer) {
        return bad ? BAD : index ? INDEX : state ? STATE : answer;
    }

    private static void tie() {
        for (int reasons = 0; reasons < 16; reasons++) {
            boolean noCandidate = (reasons & 1) != 0;
            boolean noPlace = (reasons & 2) != 0;
            boolean opened = (reasons & 4) != 0;
            boolean sealed = (reasons & 8) != 0;
            Run run = new Run("tie, reasons " + reasons, N);
            prepare(run, opened ? "open : 0" : "", sealed ? "seal : true" : "");
            run.play("tie " + (noCandidate ? N : 0) + " " + (noPlace ? N : 1) + " : "
                + first(noCandidate || noPlace, false, opened || sealed, "-"));
        }
    }

    private static void ballot() {
        for (int reasons = 0; reasons < 64; reasons++) {
            boolean noBatch = (reasons & 1) != 0;
            boolean noRanking = (reasons & 2) != 0;
            boolean noTimes = (reasons & 4) != 0;
            boolean closed = (reasons & 8) != 0;
            boolean full = (reasons & 16) != 0;
            boolean sealed = (reasons & 32) != 0;
            Run run = new Run("ballot, reasons " + reasons, N).play("open : 0");
            for (int i = 0; full && i < 6; i++) {
                run.play("ballot 0 0x321 1 : " + i);
            }
            prepare(run, closed ? "turn 0 0 : -" : "", sealed ? "seal : true" : "");
            run.play("ballot " + (noBatch ? 1 : 0) + (noRanking ? " 9 " : " 8 ") + (noTimes ? 0 : 1) + " : "
                + first(noBatch || noRanking || noTimes, false, closed || full || sealed, "0"));
        }
    }

    private static void turn() {
        for (int reasons = 0; reasons < 16; reasons++) {
            boolean noBatch = (reasons & 1) != 0;
            boolean noTurn = (reasons & 2) != 0;
            boolean closed = (reasons & 4) != 0;
            boolean sealed = (reasons & 8) != 0;
            Run run = new Run("turn, reasons " + reasons, N).play("open : 0");
            prepare(run, closed ? "turn 0 0 : -" : "", sealed ? "seal : true" : "");
            run.play("turn " + (noBatch ? 1 : 0) + (noTurn ? " 3" : " 0") + " : "
                + first(noBatch || noTurn, false, closed || sealed, "-"));
        }
    }

    private static void correct() {
        for (int reasons = 0; reasons < 32; reasons++) {
            boolean noBatch = (reasons & 1) != 0;
            boolean noRanking = (reasons & 2) != 0;
            boolean noBallot = (reasons & 4) != 0;
            boolean open = (reasons & 8) != 0;
            boolean sealed = (reasons & 16) != 0;
            Run run = new Run("correct, reasons " + reasons, N).play("open : 0", "ballot 0 7 1 : 0");
            prepare(run, open ? "" : "turn 0 0 : -", sealed ? "seal : true" : "");
            run.play("correct " + (noBatch ? 1 : 0) + (noBallot ? " 1 " : " 0 ") + (noRanking ? 9 : 8) + " : "
                + first(noBatch || noRanking, noBallot, open || sealed, "7"));
        }
    }

    private static void without() {
        for (int reasons = 0; reasons < 16; reasons++) {
            boolean noBatch = (reasons & 1) != 0;
            boolean noQuestion = (reasons & 2) != 0;
            boolean none = (reasons & 4) != 0;
            boolean sealed = (reasons & 8) != 0;
            Run run = new Run("without, reasons " + reasons, N).play("open : 0");
            prepare(run, sealed ? "seal : true" : "");
            run.play("without " + (noBatch ? 1 : 0) + (noQuestion ? " 3 " : " 2 ") + (none ? N : 0) + " : "
                + first(noBatch || noQuestion, none, false, "0"));
        }
    }

    /** Plays those rows that are not empty. */
    private static void prepare(Run run, String... rows) {
        for (String row : rows) {
            if (!row.isEmpty()) {
                run.play(row);
            }
        }
    }

    /** Those of the calls that are refused behind so many calls of a story. */
    private static void changesNothing(String[] story, int at, List<String> calls) {
        String due = told(story, at, "");
        for (String call : calls) {
            String refusal = refusal(story, at, call);
            if (!refusal.isEmpty()) {
                asked++;
                if (!told(story, at, call).equals(due.replace("refusal", refusal))) {
                    wrong++;
                    System.out.println(call + " behind call " + at + " of the story is not refused by " + refusal
                        + ", or changes something");
                }
            }
        }
    }

    /** The exception that is due for a call behind so many calls of a story, or nothing. */
    private static String refusal(String[] story, int at, String call) {
        SlowOffice model = new SlowOffice(N);
        for (int i = 0; i < at; i++) {
            if (answer(model, story[i]).startsWith("throws.")) {
                throw new AssertionError("the story itself is refused: " + story[i]);
            }
        }
        String due = answer(model, call);
        return due.startsWith("throws.") ? due : "";
    }

    /** All answers of a story with a call in it, and how the object looks behind that call and last. */
    private static String told(String[] story, int at, String call) {
        BeatPathOffice office = new BeatPathOffice(N);
        StringBuilder text = new StringBuilder();
        for (int i = 0; i < at; i++) {
            text.append(answer(office, story[i])).append(' ');
        }
        text.append(call.isEmpty() ? "refusal" : answer(office, call)).append('\n');
        look(office, text);
        for (int i = at; i < story.length; i++) {
            text.append(answer(office, story[i])).append(' ');
        }
        look(office, text);
        return text.toString();
    }

    private static void look(Object office, StringBuilder text) {
        text.append(answer(office, "voters"));
        for (int i = 0; i < N; i++) {
            for (String name : new String[] {"drawn ", "winner ", "order ", "top "}) {
                text.append(' ').append(answer(office, name + i));
            }
            for (int other = 1; other < N; other++) {
                for (String name : new String[] {"prefer ", "strength ", "way ", "cut ", "locked "}) {
                    text.append(' ').append(answer(office, name + i + " " + (i + other) % N));
                }
            }
        }
        String state = answer(office, "state 0");
        for (int batch = 0; batch < 12 && !state.startsWith("throws."); batch++) {
            text.append(' ').append(state);
            for (int i = 0; i < N; i++) {
                text.append(' ').append(answer(office, "without " + batch + " 1 " + i));
            }
            state = answer(office, "state " + (batch + 1));
        }
        text.append('\n');
    }

    private static String answer(Object office, String call) {
        String[] words = call.split(" ");
        int[] args = new int[words.length - 1];
        for (int i = 0; i < args.length; i++) {
            args[i] = Integer.decode(words[i + 1]);
        }
        return Calls.answer(office, words[0], args);
    }

    /** Calls of all kinds; at each point of the story some of them are refused. */
    private static List<String> calls() {
        List<String> calls = new ArrayList<>();
        calls.add("open");
        for (int x = -1; x <= N; x++) {
            for (String name : new String[] {"drawn ", "winner ", "order ", "top "}) {
                calls.add(name + x);
            }
            for (int y = -1; y <= N; y++) {
                for (String name : new String[] {"tie ", "prefer ", "strength ", "way ", "cut ", "locked "}) {
                    calls.add(name + x + " " + y);
                }
                calls.add("proves " + x + " " + y + " 1 0x21 1");
            }
        }
        for (int batch = -1; batch <= 4; batch++) {
            addOfBatch(calls, batch);
        }
        return calls;
    }

    private static void addOfBatch(List<String> calls, int batch) {
        calls.add("state " + batch);
        for (String rest : new String[] {"0x321 7", "0x321 0", "0x321 10001", "0x921 7", "0x1321 7", "0x9 0"}) {
            calls.add("ballot " + batch + " " + rest);
        }
        for (int to = -1; to <= 3; to++) {
            calls.add("turn " + batch + " " + to);
            calls.add("without " + batch + " " + to + " 0");
            calls.add("without " + batch + " " + to + " -1");
            calls.add("without " + batch + " " + to + " " + N);
        }
        for (int ballot = -1; ballot <= 6; ballot++) {
            calls.add("correct " + batch + " " + ballot + " 0x312");
            calls.add("correct " + batch + " " + ballot + " 0x912");
        }
    }
}
