import java.io.IOException;
import java.nio.file.Files;
import java.nio.file.Path;
import java.util.function.IntUnaryOperator;

/** Counts and prints the answers that are not the ones that are due. */
final class Check {
    static final int INVALID = -1;
    static final int STATE = -2;
    static final int CAPACITY = -3;
    static final int NONE = -9;

    private static final Path DOCUMENT = Path.of("../shared/DOC.md");

    private int wrong;
    private int asked;
    private String sentence = "";
    private String document;

    void due(String call, long got, long want) {
        asked++;
        if (got != want) {
            wrong++;
            System.out.println(call + " answered " + got + ", due is " + want
                    + (sentence.isEmpty() ? "" : "; the document: " + sentence));
        }
    }

    void holds(String what, boolean isSo) {
        due(what, isSo ? 1 : 0, 1);
    }

    /**
     * Names the sentence of the document to which the next answers belong. The words
     * must stand there, so that no test goes on for a sentence that has changed.
     */
    void says(String words) {
        sentence = words;
        if (document == null) {
            document = oneLine(read(DOCUMENT));
        }
        // Without the document the answers can be tested all the same.
        if (!document.isEmpty()) {
            holds("words of the document", document.contains(oneLine(words)));
        }
    }

    private static String oneLine(String text) {
        return text.replace("`", "").replaceAll("\\s+", " ");
    }

    private static String read(Path file) {
        try {
            return Files.readString(file);
        } catch (IOException unreadable) {
            System.out.println(file + " can't be read: its words are not compared");
            return "";
        }
    }

    /**
     * The ends of an argument's range are taken, what lies outside is refused.
     * The call is to be made on a new object each time.
     */
    void range(String call, int low, int high, IntUnaryOperator answer) {
        taken(call, low, answer);
        taken(call, high, answer);
        nothingOutside(call, low, high, answer);
    }

    /** A range with the answers that are due at both ends of it. */
    void ends(String call, int low, int dueLow, int high, int dueHigh, IntUnaryOperator answer) {
        due(call + " with " + low, answer.applyAsInt(low), dueLow);
        due(call + " with " + high, answer.applyAsInt(high), dueHigh);
        nothingOutside(call, low, high, answer);
    }

    /** There is no allowed argument at all. */
    void emptyRange(String call, IntUnaryOperator answer) {
        nothingOutside(call, 0, -1, answer);
        due(call + " with 1", answer.applyAsInt(1), INVALID);
    }

    private void taken(String call, int argument, IntUnaryOperator answer) {
        int got = answer.applyAsInt(argument);
        holds(call + " takes " + argument + " (answered " + got + ")", got >= 0 || got == NONE);
    }

    private void nothingOutside(String call, int low, int high, IntUnaryOperator answer) {
        int[] outside = {low - 1, high + 1, Integer.MIN_VALUE, Integer.MIN_VALUE + 1,
            Integer.MAX_VALUE - 1, Integer.MAX_VALUE};
        for (int argument : outside) {
            due(call + " with " + argument, answer.applyAsInt(argument), INVALID);
        }
    }

    /** Prints the sums and ends the program with exit code 1 if an answer was wrong. */
    void end() {
        System.out.println(asked - wrong + " passed, " + wrong + " failed");
        if (wrong != 0 || asked == 0) {
            System.exit(1);
        }
    }

    static void write(ChangingRounds x, String text) {
        for (int i = 0; i < text.length(); i++) {
            x.appendCharacter(text.charAt(i));
        }
    }

    /** A new object that has loaded a text. */
    ChangingRounds loaded(String text) {
        ChangingRounds x = new ChangingRounds();
        write(x, text);
        holds("load of " + text, x.load() >= 0);
        return x;
    }

    /** A round has these edges, written as in a text, and no others. */
    void edges(ChangingRounds x, int round, String edges) {
        for (int b = 1; b < x.count(0); b++) {
            for (int a = 0; a < b; a++) {
                int due = edges.contains("" + a + b) || edges.contains("" + b + a) ? 1 : 0;
                due("edge(" + round + ", " + a + ", " + b + ")", x.edge(round, a, b), due);
                due("edge(" + round + ", " + b + ", " + a + ")", x.edge(round, b, a), due);
            }
        }
    }
}
