import java.util.Arrays;

/** A run of calls on a new object, each told as "name arguments : answer". */
final class Run {
    private static final String BAD = "throws.IllegalArgumentException";
    private static final String STATE = "throws.IllegalStateException";
    private static final String INDEX = "throws.IndexOutOfBoundsException";
    /** The document promises nothing of an object after so many calls. */
    private static final int MOST_CALLS = 512;
    private static int calls = 0;
    private static int wrong = 0;

    private final String title;
    private final BeatPathOffice office;
    private int made = 0;

    Run(String title, int n) {
        this.title = title;
        this.office = new BeatPathOffice(n);
    }

    /** Arguments may be hexadecimal (0x21); answers may be BAD, STATE or INDEX for exceptions. */
    Run play(String... rows) {
        for (String row : rows) {
            playRow(row);
        }
        return this;
    }

    /** Opens a batch, puts in ballots told as "ranking times", and closes it. */
    Run batch(int number, String... ballots) {
        play("open : " + number);
        for (int i = 0; i < ballots.length; i++) {
            play("ballot " + number + " " + ballots[i] + " : " + i);
        }
        return play("turn " + number + " 0 : -");
    }

    /** All answers of winner, order or top, and the index out of bounds behind them and before. */
    Run row(String name, int... answers) {
        for (int i = 0; i < answers.length; i++) {
            play(name + " " + i + " : " + answers[i]);
        }
        return play(name + " " + answers.length + " : INDEX", name + " -1 : INDEX");
    }

    private void playRow(String row) {
        String[] parts = row.split(" : ");
        String[] words = parts[0].trim().split(" ");
        int[] args = Arrays.stream(words).skip(1).mapToInt(w -> Long.decode(w).intValue()).toArray();
        String got = Calls.answer(office, words[0], args);
        calls++;
        made++;
        if (made > MOST_CALLS) {
            throw new AssertionError(title + ": more calls than the document promises answers to");
        }
        if (!got.equals(due(parts[1].trim()))) {
            wrong++;
            System.out.println(title + ": " + row + " answered " + got);
        }
    }

    private static String due(String text) {
        switch (text) {
            case "BAD": return BAD;
            case "STATE": return STATE;
            case "INDEX": return INDEX;
            default: return text.startsWith("0x") ? String.valueOf(Long.decode(text).intValue()) : text;
        }
    }

    static void end() {
        System.out.println(calls + " calls, " + wrong + " wrong");
        if (wrong != 0) {
            System.exit(1);
        }
    }
}
