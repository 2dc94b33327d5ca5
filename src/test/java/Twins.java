import java.util.ArrayList;
import java.util.List;
import java.util.function.Consumer;
import java.util.function.ToIntFunction;

/**
 * Two objects with the same past. One of them gets a call that must change
 * nothing; then all that can be seen of both is compared: the state, each saved
 * state, and the text.
 */
final class Twins {
    private static final int CALLS_OF_AN_OBJECT = 512;
    private static final int LONGEST_PAST = 150;

    private final Check check;
    private final String name;
    private final Consumer<ChangingRounds> past;

    Twins(Check check, String name, Consumer<ChangingRounds> past) {
        this.check = check;
        this.name = name;
        this.past = past;
    }

    /** The call has the answer that is due and leaves no trace. */
    void leavesNoTrace(String call, int due, ToIntFunction<ChangingRounds> answer) {
        ChangingRounds called = made();
        check.due(name + ": " + call, answer.applyAsInt(called), due);
        check.due(name + ": " + call + " again", answer.applyAsInt(called), due);
        List<Integer> seen = seen(called);
        List<Integer> seenOfTwin = seen(made());
        check.holds(name + ": " + call + " changes nothing", seen.equals(seenOfTwin));
        check.holds(name + " is looked at in time", seen.size() + LONGEST_PAST < CALLS_OF_AN_OBJECT);
    }

    private ChangingRounds made() {
        ChangingRounds x = new ChangingRounds();
        past.accept(x);
        return x;
    }

    /** The answers of all calls that show something; the object is used up by them. */
    private static List<Integer> seen(ChangingRounds x) {
        List<Integer> answers = new ArrayList<>();
        seeState(x, answers);
        for (int left = x.count(5); left >= 0; left--) {
            answers.add(x.undo());
            seeState(x, answers);
        }
        // A text is seen by what it says, be it only behind one more character.
        answers.add(x.load());
        seeState(x, answers);
        answers.add(x.appendCharacter(';'));
        answers.add(x.load());
        seeState(x, answers);
        return answers;
    }

    private static void seeState(ChangingRounds x, List<Integer> answers) {
        for (int what = 0; what <= 5; what++) {
            answers.add(x.count(what));
        }
        int nodes = x.count(0);
        for (int node = 0; node < nodes; node++) {
            answers.add(x.value(node));
        }
        int rounds = x.count(1);
        for (int round = 0; round < rounds; round++) {
            for (int b = 1; b < nodes; b++) {
                for (int a = 0; a < b; a++) {
                    answers.add(x.edge(round, a, b));
                }
            }
        }
    }
}
