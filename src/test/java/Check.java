/** Counts and prints the answers that are not the ones that are due. */
final class Check {
    static final int INVALID = -1;
    static final int STATE = -2;
    static final int CAPACITY = -3;
    static final int NONE = -9;

    private int wrong;
    private int asked;

    void due(String call, long got, long want) {
        asked++;
        if (got != want) {
            wrong++;
            System.out.println(call + " answered " + got + ", due is " + want);
        }
    }

    void holds(String what, boolean isSo) {
        due(what, isSo ? 1 : 0, 1);
    }

    /** Prints the sums and ends the program with exit code 1 if an answer was wrong. */
    void end() {
        System.out.println(asked - wrong + " passed, " + wrong + " failed");
        if (wrong != 0 || asked == 0) {
            System.exit(1);
        }
    }

    static void write(ChangingRounds x, String text) {
        for (int i = 0; i < text.length(); i++) {
            x.appendCharacter(text.charAt(i));
        }
    }

    /** A new object that has loaded a text. */
    ChangingRounds loaded(String text) {
        ChangingRounds x = new ChangingRounds();
        write(x, text);
        holds("load of " + text, x.load() >= 0);
        return x;
    }
}
