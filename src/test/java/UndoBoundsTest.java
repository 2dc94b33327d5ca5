import java.util.List;
import java.util.function.Consumer;
import java.util.function.ToIntFunction;

/** Boundary cases of promise 31, of saved states, and of calls that change nothing. */
public final class UndoBoundsTest {
    private static final Check check = new Check();

    public static void main(String[] args) {
        eachChangeIsSaved();
        changesWithoutEffectAreSaved();
        sixStatesAtMost();
        oldestIsDiscarded();
        undoAndSaveInTurn();
        undoWithoutStates();
        savedStatesAreCopies();
        textIsNotSaved();
        refusedSchedulingChangesNothing();
        refusedWithoutRoomChangesNothing();
        refusedQuestionsChangeNothing();
        refusedTextsChangeNothing();
        refusedUndoChangesNothing();
        questionsChangeNothing();
        check.end();
    }

    /** The nodes, the values and the schedule, as one text. */
    private static String state(ChangingRounds x) {
        StringBuilder seen = new StringBuilder();
        for (int node = 0; node < x.count(0); node++) {
            seen.append(x.value(node)).append(' ');
        }
        for (int round = 0; round < x.count(1); round++) {
            seen.append('/');
            for (int b = 1; b < x.count(0); b++) {
                for (int a = 0; a < b; a++) {
                    seen.append(x.edge(round, a, b));
                }
            }
        }
        return seen.toString();
    }

    private static void savedAndUndone(String call, ChangingRounds x, Consumer<ChangingRounds> change) {
        String before = state(x);
        int saved = x.count(5);
        change.accept(x);
        check.due(call + " saves", x.count(5), saved + 1);
        String after = state(x);
        check.due("undo of " + call, x.undo(), saved);
        check.holds("undo of " + call + " restores " + before, state(x).equals(before));
        check.holds(call + " has changed it", !after.equals(before));
    }

    private static ChangingRounds three() {
        ChangingRounds x = check.loaded("nodes 3;01;full;");
        x.setValue(2, 99);
        return x;
    }

    private static void eachChangeIsSaved() {
        check.says("Every successful call of setNodes(), addRound(), setEdge(), removeRound(), "
                + "swapRounds(), addAdversary(), setValue() and load() saves the state that "
                + "preceded it: the nodes, the schedule and the values.");
        savedAndUndone("setNodes(2)", three(), x -> x.setNodes(2));
        savedAndUndone("setNodes(3)", three(), x -> x.setNodes(3));
        savedAndUndone("setNodes(8)", three(), x -> x.setNodes(8));
        savedAndUndone("addRound()", three(), x -> x.addRound());
        savedAndUndone("setEdge on", three(), x -> x.setEdge(0, 1, 2, 1));
        savedAndUndone("setEdge off", three(), x -> x.setEdge(1, 1, 2, 0));
        savedAndUndone("removeRound(0)", three(), x -> x.removeRound(0));
        savedAndUndone("removeRound(1)", three(), x -> x.removeRound(1));
        savedAndUndone("swapRounds", three(), x -> x.swapRounds(0, 1));
        for (int kind = 0; kind <= 2; kind++) {
            int which = kind;
            savedAndUndone("addAdversary " + kind, three(), x -> x.addAdversary(which, 2));
        }
        savedAndUndone("setValue", three(), x -> x.setValue(2, 0));
        savedAndUndone("load of the empty text", three(), x -> x.load());
        savedAndUndone("load", three(), x -> {
            Check.write(x, "nodes 5;ring;");
            x.load();
        });
        savedAndUndone("the sixteenth round", check.loaded("path;repeat 9;repeat 5;"),
                x -> x.addRound());
        savedAndUndone("16 rounds removed", check.loaded("path;repeat 9;ring;repeat 5;"),
                x -> x.setNodes(4));
        savedAndUndone("the only round removed", check.loaded("path;"), x -> x.removeRound(0));
    }

    private static void changesWithoutEffectAreSaved() {
        check.says("Every successful call of");
        ChangingRounds x = new ChangingRounds();
        check.due("the same number of nodes", x.setNodes(4), 4);
        check.due("saved", x.count(5), 1);
        check.due("the same value", x.setValue(3, 3), 3);
        check.due("saved then", x.count(5), 2);
        x.addRound();
        check.due("the same round", x.swapRounds(0, 0), 0);
        check.due("saved in the end", x.count(5), 4);
        check.due("undo of the swap", x.undo(), 3);
        check.due("one round", x.count(1), 1);
        check.due("undo of the round", x.undo(), 2);
        check.due("no round", x.count(1), 0);
    }

    private static void sixStatesAtMost() {
        check.says("At most 6 states are saved;");
        ChangingRounds x = new ChangingRounds();
        for (int round = 0; round < 9; round++) {
            check.due("saved before", x.count(5), Math.min(round, 6));
            x.addRound();
        }
        check.due("saved", x.count(5), 6);
        for (int left = 5; left >= 0; left--) {
            check.due("undo", x.undo(), left);
            check.due("saved then", x.count(5), left);
            check.due("rounds", x.count(1), 3 + left);
        }
        check.due("no seventh", x.undo(), Check.STATE);
        check.due("rounds in the end", x.count(1), 3);
    }

    private static void oldestIsDiscarded() {
        check.says("when a seventh is saved, the oldest one is discarded.");
        ChangingRounds six = new ChangingRounds();
        ChangingRounds seven = new ChangingRounds();
        for (int value = 11; value <= 16; value++) {
            six.setValue(0, value);
            seven.setValue(0, value);
        }
        seven.setValue(0, 17);
        for (int left = 5; left >= 0; left--) {
            check.due("undo of six", six.undo(), left);
            check.due("undo of seven", seven.undo(), left);
            check.due("value of six", six.value(0), left == 0 ? 0 : 10 + left);
            check.due("value of seven", seven.value(0), 11 + left);
        }
        check.due("six has no more", six.undo(), Check.STATE);
        check.due("seven has no more", seven.undo(), Check.STATE);
        check.due("the first state of six", six.value(0), 0);
        check.due("the first state of seven is gone", seven.value(0), 11);
    }

    private static void undoAndSaveInTurn() {
        check.says("undo() restores the most recently saved state and discards it.");
        ChangingRounds x = new ChangingRounds();
        for (int value = 20; value < 40; value++) {
            x.setValue(0, value);
        }
        // Undo saves nothing: what was undone can't be brought back.
        check.due("undo", x.undo(), 5);
        check.due("value", x.value(0), 38);
        check.due("undo again", x.undo(), 4);
        check.due("value again", x.value(0), 37);
        x.setValue(0, 50);
        x.setValue(0, 51);
        check.due("six again", x.count(5), 6);
        x.setValue(0, 52);
        check.due("six still", x.count(5), 6);
        int[] due = {51, 50, 37, 36, 35, 34};
        for (int i = 0; i < due.length; i++) {
            check.due("undo " + i, x.undo(), 5 - i);
            check.due("value " + i, x.value(0), due[i]);
        }
        check.due("nothing left", x.undo(), Check.STATE);
    }

    private static void undoWithoutStates() {
        check.says("Returns the number of states that are still saved; ILLEGAL_STATE if there is "
                + "none.");
        ChangingRounds x = new ChangingRounds();
        check.due("at first", x.undo(), Check.STATE);
        x.addRound();
        check.due("the only one", x.undo(), 0);
        check.due("none then", x.undo(), Check.STATE);
        check.due("none still", x.undo(), Check.STATE);
        check.due("saved", x.count(5), 0);
        x.addRound();
        check.due("the only one again", x.undo(), 0);
        // A refused call saves nothing that could be undone.
        x.setNodes(9);
        x.removeRound(0);
        x.setEdge(0, 0, 1, 1);
        x.swapRounds(0, 0);
        x.addAdversary(3, 0);
        x.setValue(4, 0);
        x.appendCharacter('!');
        x.load();
        check.due("none behind refused calls", x.undo(), Check.STATE);
    }

    private static void savedStatesAreCopies() {
        check.says("saves the state that preceded it: the nodes, the schedule and the values.");
        ChangingRounds x = check.loaded("nodes 8;full;repeat 9;repeat 6;");
        x.setValue(7, 77);
        x.setNodes(2);
        x.addRound();
        x.setEdge(0, 0, 1, 1);
        x.setValue(0, 55);
        x.undo();
        x.undo();
        x.undo();
        check.due("undo to 8 nodes", x.undo(), 2);
        check.due("nodes", x.count(0), 8);
        check.due("rounds", x.count(1), 16);
        check.due("edges", x.count(2), 448);
        check.due("value(7)", x.value(7), 77);
        check.due("value(0)", x.value(0), 0);
        check.due("undo of the value", x.undo(), 1);
        check.due("value(7) then", x.value(7), 7);
        check.due("undo of load", x.undo(), 0);
        check.due("nodes at first", x.count(0), 4);
        check.due("rounds at first", x.count(1), 0);
    }

    private static void textIsNotSaved() {
        check.says("the nodes, the schedule and the values.");
        ChangingRounds x = new ChangingRounds();
        Check.write(x, "full;");
        check.due("appending saves nothing", x.count(5), 0);
        x.clearText();
        check.due("clearing saves nothing", x.count(5), 0);
        Check.write(x, "full;");
        x.load();
        check.due("undo of load", x.undo(), 0);
        check.due("the text stays empty", x.count(4), 0);
        x.addRound();
        Check.write(x, "path;");
        check.due("undo", x.undo(), 0);
        check.due("the text stays", x.count(4), 5);
        check.due("load of it", x.load(), 1);
    }

    /** Six saved states, rounds with and without edges, and a text that can be read. */
    private static Twins small() {
        return new Twins(check, "small", x -> {
            x.setNodes(3);
            x.addRound();
            x.setEdge(0, 0, 1, 1);
            x.setValue(2, 99);
            x.setValue(0, 50);
            x.addRound();
            x.setEdge(1, 1, 2, 1);
            Check.write(x, "nodes 5;12 34;");
        });
    }

    private static Twins sixteenRounds() {
        return new Twins(check, "16 rounds", x -> {
            Check.write(x, "nodes 3;path;repeat 9;ring;repeat 5;");
            x.load();
            x.setValue(1, 7);
            Check.write(x, "nodes 2;full;");
        });
    }

    private static Twins withText(String text) {
        return new Twins(check, "text '" + text + "'", x -> {
            x.addRound();
            x.setEdge(0, 2, 3, 1);
            x.setValue(1, 0);
            Check.write(x, text);
        });
    }

    private static Twins untouched() {
        return new Twins(check, "new", x -> { });
    }

    private static void refusedSchedulingChangesNothing() {
        check.says("A method that returns an error code changes nothing.");
        Twins twins = small();
        for (int nodes : new int[] {-1, 0, 1, 9, Integer.MAX_VALUE}) {
            twins.leavesNoTrace("setNodes(" + nodes + ")", Check.INVALID, x -> x.setNodes(nodes));
        }
        twins.leavesNoTrace("setEdge on 2", Check.INVALID, x -> x.setEdge(0, 1, 2, 2));
        twins.leavesNoTrace("setEdge on -1", Check.INVALID, x -> x.setEdge(0, 0, 1, -1));
        twins.leavesNoTrace("setEdge round 2", Check.INVALID, x -> x.setEdge(2, 0, 1, 1));
        twins.leavesNoTrace("setEdge round -1", Check.INVALID, x -> x.setEdge(-1, 0, 1, 1));
        twins.leavesNoTrace("setEdge a 3", Check.INVALID, x -> x.setEdge(0, 3, 1, 1));
        twins.leavesNoTrace("setEdge b 3", Check.INVALID, x -> x.setEdge(0, 1, 3, 1));
        twins.leavesNoTrace("setEdge one node", Check.INVALID, x -> x.setEdge(0, 1, 1, 1));
        twins.leavesNoTrace("setEdge on already", Check.STATE, x -> x.setEdge(0, 1, 0, 1));
        twins.leavesNoTrace("setEdge off already", Check.STATE, x -> x.setEdge(0, 1, 2, 0));
        twins.leavesNoTrace("removeRound(2)", Check.INVALID, x -> x.removeRound(2));
        twins.leavesNoTrace("removeRound(-1)", Check.INVALID, x -> x.removeRound(-1));
        twins.leavesNoTrace("swapRounds(0, 2)", Check.INVALID, x -> x.swapRounds(0, 2));
        twins.leavesNoTrace("swapRounds(2, 0)", Check.INVALID, x -> x.swapRounds(2, 0));
        twins.leavesNoTrace("swapRounds(0, -1)", Check.INVALID, x -> x.swapRounds(0, -1));
        twins.leavesNoTrace("addAdversary(3, 0)", Check.INVALID, x -> x.addAdversary(3, 0));
        twins.leavesNoTrace("addAdversary(0, 3)", Check.INVALID, x -> x.addAdversary(0, 3));
        twins.leavesNoTrace("setValue(3, 0)", Check.INVALID, x -> x.setValue(3, 0));
        twins.leavesNoTrace("setValue(0, 100)", Check.INVALID, x -> x.setValue(0, 100));
        twins.leavesNoTrace("setValue(0, -1)", Check.INVALID, x -> x.setValue(0, -1));
        untouched().leavesNoTrace("removeRound(0)", Check.INVALID, x -> x.removeRound(0));
        untouched().leavesNoTrace("swapRounds(0, 0)", Check.INVALID, x -> x.swapRounds(0, 0));
        untouched().leavesNoTrace("setEdge", Check.INVALID, x -> x.setEdge(0, 0, 1, 1));
    }

    private static void refusedWithoutRoomChangesNothing() {
        check.says("A method that returns an error code changes nothing.");
        Twins twins = sixteenRounds();
        twins.leavesNoTrace("addRound()", Check.CAPACITY, x -> x.addRound());
        for (int kind = 0; kind <= 2; kind++) {
            int which = kind;
            twins.leavesNoTrace("addAdversary " + kind, Check.CAPACITY, x -> x.addAdversary(which, 2));
        }
        twins.leavesNoTrace("addAdversary(3, 0)", Check.INVALID, x -> x.addAdversary(3, 0));
        twins.leavesNoTrace("removeRound(16)", Check.INVALID, x -> x.removeRound(16));
        twins.leavesNoTrace("swapRounds(15, 16)", Check.INVALID, x -> x.swapRounds(15, 16));
    }

    private static void refusedQuestionsChangeNothing() {
        check.says("A method that returns an error code changes nothing.");
        List<ToIntFunction<ChangingRounds>> refused = List.of(
                x -> x.edge(2, 0, 1), x -> x.edge(0, 1, 1), x -> x.count(6), x -> x.count(-1),
                x -> x.value(3), x -> x.value(-1), x -> x.round(2, 0), x -> x.round(0, 4),
                x -> x.staying(1, 2), x -> x.staying(0, 0), x -> x.isStable(0), x -> x.isStable(3),
                x -> x.window(2), x -> x.heard(3, 0, 1), x -> x.heard(0, 100, 1),
                x -> x.heard(0, 0, 100), x -> x.journey(3, 0, 0), x -> x.journey(0, 3, 0),
                x -> x.journey(0, 1, 100), x -> x.diameter(100), x -> x.diameter(-1),
                x -> x.gossip(3, 0, 1), x -> x.gossip(0, 3, 1), x -> x.gossip(0, 0, 100),
                x -> x.gossipTime(3), x -> x.decision(3, 1), x -> x.decision(0, 100),
                x -> x.counted(3), x -> x.counted(-1));
        for (int i = 0; i < refused.size(); i++) {
            small().leavesNoTrace("refused question " + i, Check.INVALID, refused.get(i));
        }
    }

    private static void refusedTextsChangeNothing() {
        check.says("A method that returns an error code changes nothing.");
        small().leavesNoTrace("character -1", Check.INVALID, x -> x.appendCharacter(-1));
        small().leavesNoTrace("character 256", Check.INVALID, x -> x.appendCharacter(256));
        String longest = "nodes 3;path;" + " ".repeat(102) + "ring;";
        withText(longest).leavesNoTrace("character 121", Check.CAPACITY, x -> x.appendCharacter('!'));
        withText(longest).leavesNoTrace("character -1", Check.INVALID, x -> x.appendCharacter(-1));
        check.says("-10 minus the error position if the text is not a schedule (then nothing "
                + "changes, and the text is kept).");
        // One more ";" makes these texts right, and shows that they are kept.
        String[] texts = {"none", "nodes 8", "nodes 3;full;path", "star 3", "01 12 23",
            "path;repeat 9;repeat 6"};
        for (String text : texts) {
            withText(text).leavesNoTrace("load", -10 - text.length(), x -> x.load());
        }
        withText("!").leavesNoTrace("load", -10, x -> x.load());
        withText("nodes 2;full;repeat 9;full;repeat 9;").leavesNoTrace("load", -10 - 34,
                x -> x.load());
        withText("nodes 8;full;;").leavesNoTrace("load", -10 - 13, x -> x.load());
    }

    private static void refusedUndoChangesNothing() {
        check.says("A method that returns an error code changes nothing.");
        untouched().leavesNoTrace("undo()", Check.STATE, x -> x.undo());
        Twins undone = new Twins(check, "undone", x -> {
            x.setNodes(3);
            x.undo();
            Check.write(x, "full;");
        });
        undone.leavesNoTrace("undo()", Check.STATE, x -> x.undo());
        // The first of seven changes can't be undone and stays.
        Twins seventh = new Twins(check, "seventh", x -> {
            for (int value = 1; value <= 7; value++) {
                x.setValue(0, value);
            }
            for (int i = 0; i < 6; i++) {
                x.undo();
            }
        });
        seventh.leavesNoTrace("undo()", Check.STATE, x -> x.undo());
    }

    private static void questionsChangeNothing() {
        check.says("NONE is no error, and it is returned only if no error code applies.");
        Twins twins = small();
        // The edges are 01 and then 12, of three nodes with the values 50, 1 and 99.
        int[] due = {1, 3, 0, 2, 1, 0, 0, 0, 0, 7, 3, 3, 0, 7, Check.NONE, Check.NONE, 4, 1, 2, 3,
            14, 0};
        List<ToIntFunction<ChangingRounds>> questions = List.of(
                x -> x.edge(0, 0, 1), x -> x.count(0), x -> x.count(3), x -> x.round(0, 2),
                x -> x.value(1), x -> x.staying(0, 2), x -> x.isStable(1), x -> x.greatestStable(),
                x -> x.window(0), x -> x.heard(2, 0, 2), x -> x.journey(2, 0, 0),
                x -> x.diameter(0), x -> x.center(), x -> x.gossip(0, 1, 2), x -> x.gossipTime(0),
                x -> x.gossipTime(1), x -> x.gossipTime(2), x -> x.decision(0, 1),
                x -> x.agreement(), x -> x.counted(2), x -> x.countingSteps(),
                x -> x.wrongCounts());
        for (int i = 0; i < due.length; i++) {
            twins.leavesNoTrace("question " + i, due[i], questions.get(i));
        }
        check.due("never", new ChangingRounds().journey(0, 1, 0), Check.NONE);
        untouched().leavesNoTrace("journey", Check.NONE, x -> x.journey(0, 1, 0));
        untouched().leavesNoTrace("diameter", Check.NONE, x -> x.diameter(0));
        untouched().leavesNoTrace("center", Check.NONE, x -> x.center());
        untouched().leavesNoTrace("gossipTime", Check.NONE, x -> x.gossipTime(0));
        untouched().leavesNoTrace("agreement", Check.NONE, x -> x.agreement());
    }
}
