/** Boundary cases of promises 15 to 19, and of what the description says of windows. */
public final class WindowsBoundsTest {
    private static final String SIXTEEN = "path;repeat 9;repeat 6;";
    private static final Check check = new Check();

    public static void main(String[] args) {
        roundErrors();
        roundProperties();
        stayingIsShared();
        stayingErrors();
        stableBounds();
        stableInEachWindow();
        stableWithoutBeginningAnew();
        isStableErrors();
        greatestStable();
        windowLengths();
        windowErrors();
        withoutRounds();
        check.end();
    }

    private static void roundErrors() {
        check.says("Returns the property; INVALID_ARGUMENT if there is no such round or what is "
                + "out of range.");
        check.range("what", 0, 3, what -> check.loaded("path;").round(0, what));
        check.range("round", 0, 15, round -> check.loaded(SIXTEEN).round(round, 3));
        check.due("both wrong", check.loaded("path;").round(1, 4), Check.INVALID);
        check.due("wrong what of no round", new ChangingRounds().round(0, 4), Check.INVALID);
    }

    private static void roundProperties() {
        check.says("0 the number of its edges, 1 1 if they are connected and 0 if not, 2 the number "
                + "of its components (a node without edges is one, too), 3 the greatest number of "
                + "edges at a node");
        properties("nodes 2;none;", 0, 0, 2, 0);
        properties("nodes 2;full;", 1, 1, 1, 1);
        properties("nodes 8;none;", 0, 0, 8, 0);
        properties("nodes 8;full;", 28, 1, 1, 7);
        properties("nodes 8;06;", 1, 0, 7, 1);
        properties("nodes 8;67;", 1, 0, 7, 1);
        properties("nodes 8;01 02 12 03;", 4, 0, 5, 3);
        properties("nodes 8;star 0;", 7, 1, 1, 7);
        properties("nodes 8;star 7;", 7, 1, 1, 7);
        properties("nodes 8;01 23 45 67;", 4, 0, 4, 1);
        properties("nodes 8;01 12 23 34 45 56 06;", 7, 0, 2, 2);
        properties("nodes 8;70 71 72 73 74 75;", 6, 0, 2, 6);
        properties("nodes 8;07 71 16 62 25 53 34;", 7, 1, 1, 2);
    }

    private static void properties(String text, int... due) {
        ChangingRounds x = check.loaded(text);
        for (int what = 0; what < due.length; what++) {
            check.due(text + " round(0, " + what + ")", x.round(0, what), due[what]);
        }
    }

    private static void stayingIsShared() {
        check.says("The edges that stay in some successive rounds of the schedule are those that "
                + "all these rounds have.");
        ChangingRounds x = check.loaded("full;path;ring;01 23;23;none;");
        int[] dueFromFirst = {6, 3, 3, 2, 1, 0};
        for (int length = 1; length <= 6; length++) {
            check.due("staying(0, " + length + ")", x.staying(0, length), dueFromFirst[length - 1]);
        }
        int[] dueAlone = {6, 3, 4, 2, 1, 0};
        for (int round = 0; round < 6; round++) {
            check.due("staying(" + round + ", 1)", x.staying(round, 1), dueAlone[round]);
        }
        check.due("the last two", x.staying(4, 2), 0);
        // The first, a middle or the last round alone lacks the edge.
        check.due("first lacks", check.loaded("01;12 01;12;").staying(1, 2), 1);
        check.due("first lacks", check.loaded("01;12;12;").staying(0, 3), 0);
        check.due("middle lacks", check.loaded("12;01;12;").staying(0, 3), 0);
        check.due("last lacks", check.loaded("12;12;01;").staying(0, 3), 0);
        ChangingRounds most = check.loaded("nodes 8;full;repeat 9;repeat 6;");
        check.due("all edges in all rounds", most.staying(0, 16), 28);
        most.setEdge(15, 0, 7, 0);
        check.due("the last round lacks one", most.staying(0, 16), 27);
        check.due("without the last round", most.staying(0, 15), 28);
        check.due("the last round alone", most.staying(15, 1), 27);
    }

    private static void stayingErrors() {
        check.says("length: how many rounds, 1 or more; all of them must be in the schedule");
        check.range("length from 0", 1, 16, length -> check.loaded(SIXTEEN).staying(0, length));
        check.range("length from 1", 1, 15, length -> check.loaded(SIXTEEN).staying(1, length));
        check.range("length from 15", 1, 1, length -> check.loaded(SIXTEEN).staying(15, length));
        check.range("length of 1", 1, 1, length -> check.loaded("path;").staying(0, length));
        check.says("Returns their number; INVALID_ARGUMENT if an argument is out of range.");
        ChangingRounds x = check.loaded("path;path;path;");
        int[] far = {Integer.MIN_VALUE, -1, 3, Integer.MAX_VALUE};
        for (int from : far) {
            for (int length : new int[] {Integer.MIN_VALUE, -1, 0, 1, 2, 4, Integer.MAX_VALUE}) {
                check.due("far from", x.staying(from, length), Check.INVALID);
            }
        }
        check.due("no rounds", x.staying(0, 0), Check.INVALID);
        check.due("no rounds behind the last", x.staying(3, 0), Check.INVALID);
    }

    private static void stableBounds() {
        check.says("The schedule is T-stable, T being from 1 to the number of rounds, if the edges "
                + "that stay are connected for each T successive rounds of it");
        ChangingRounds one = check.loaded("path;");
        check.due("one round", one.isStable(1), 1);
        check.due("one round, T 2", one.isStable(2), Check.INVALID);
        check.due("one round, T 0", one.isStable(0), Check.INVALID);
        ChangingRounds all = check.loaded(SIXTEEN);
        for (int t = 1; t <= 16; t++) {
            check.due("isStable(" + t + ")", all.isStable(t), 1);
        }
        check.due("T 17", all.isStable(17), Check.INVALID);
        // Nodes 2 and 3 part in the last round only.
        all.setEdge(15, 2, 3, 0);
        for (int t = 1; t <= 16; t++) {
            check.due("isStable(" + t + ") then", all.isStable(t), 0);
        }
        check.due("two nodes", check.loaded("nodes 2;01;01;").isStable(2), 1);
        check.due("two nodes apart", check.loaded("nodes 2;01;none;").isStable(2), 0);
    }

    private static void stableInEachWindow() {
        check.says("for each T successive rounds of it");
        // Path and star share one edge only: the first, a middle or the last window fails.
        stable("path;star 0;full;full;", 2, 0);
        stable("full;path;star 0;full;", 2, 0);
        stable("full;full;path;star 0;", 2, 0);
        stable("path;full;full;star 0;", 2, 1);
        stable("path;full;full;star 0;", 3, 1);
        stable("path;full;full;star 0;", 4, 0);
        stable("none;full;full;", 1, 0);
        stable("full;none;full;", 1, 0);
        stable("full;full;none;", 1, 0);
    }

    private static void stable(String text, int t, int due) {
        check.due(text + " isStable(" + t + ")", check.loaded(text).isStable(t), due);
    }

    private static void stableWithoutBeginningAnew() {
        check.says("(from round f to round f + T - 1, all of them in the schedule, without "
                + "beginning anew)");
        stable("path;full;star 0;", 2, 1);
        stable("star 0;full;path;", 2, 1);
        check.due("greatestStable", check.loaded("path;full;star 0;").greatestStable(), 2);
        check.due("staying", check.loaded("path;full;star 0;").staying(2, 2), Check.INVALID);
        check.due("window", check.loaded("path;full;path;").window(2), 1);
    }

    private static void isStableErrors() {
        check.says("Returns 1 or 0; INVALID_ARGUMENT if t is out of range.");
        check.range("t of 1", 1, 1, t -> check.loaded("none;").isStable(t));
        check.range("t of 3", 1, 3, t -> check.loaded("path;repeat 2;").isStable(t));
        check.range("t of 16", 1, 16, t -> check.loaded(SIXTEEN).isStable(t));
        check.emptyRange("t of 0", t -> new ChangingRounds().isStable(t));
    }

    private static void greatestStable() {
        check.says("Returns the greatest T for which the schedule is T-stable. Returns the number; "
                + "0 if there is none.");
        greatest("", 0);
        greatest("none;", 0);
        greatest("full;full;none;", 0);
        greatest("none;full;full;", 0);
        greatest("path;", 1);
        greatest("path;star 0;", 1);
        greatest("path;path;", 2);
        greatest("path;full;full;star 0;", 3);
        greatest(SIXTEEN, 16);
        greatest("path;repeat 9;repeat 5;star 0;", 1);
        greatest("path;repeat 9;repeat 4;full;star 0;", 2);
    }

    private static void greatest(String text, int due) {
        check.due(text + " greatestStable", check.loaded(text).greatestStable(), due);
    }

    private static void windowLengths() {
        check.says("the greatest number of successive rounds, all of them in the schedule, "
                + "beginning with it, in which the edges that stay are connected.");
        windows("path;path;full;star 0;full;none;full;", 3, 2, 3, 2, 1, 0, 1);
        windows("path;", 1);
        windows("none;", 0);
        windows("path;none;path;path;", 1, 0, 2, 1);
        ChangingRounds x = check.loaded(SIXTEEN);
        for (int round = 0; round < 16; round++) {
            check.due("window(" + round + ") of 16", x.window(round), 16 - round);
        }
        // Neighbouring rounds share enough edges, but all three do not.
        windows("path;full;star 0;", 2, 2, 1);
        windows("nodes 3;full;01 12;full;12 02;full;", 3, 2, 3, 2, 1);
    }

    private static void windows(String text, int... due) {
        ChangingRounds x = check.loaded(text);
        for (int round = 0; round < due.length; round++) {
            check.due(text + " window(" + round + ")", x.window(round), due[round]);
        }
    }

    private static void windowErrors() {
        check.says("Returns the number, 0 if the round itself is not connected; INVALID_ARGUMENT "
                + "if there is no such round.");
        windows("nodes 2;none;01;none;", 0, 1, 0);
        windows("nodes 8;01 12 23 34 45 56;path;", 0, 1);
        check.range("window", 0, 2, round -> check.loaded("none;path;none;").window(round));
        check.emptyRange("window", round -> new ChangingRounds().window(round));
    }

    private static void withoutRounds() {
        check.says("(at first there are none)");
        ChangingRounds x = new ChangingRounds();
        check.due("round", x.round(0, 0), Check.INVALID);
        check.due("staying", x.staying(0, 1), Check.INVALID);
        check.due("staying of none", x.staying(0, 0), Check.INVALID);
        check.due("isStable(0)", x.isStable(0), Check.INVALID);
        check.due("isStable(1)", x.isStable(1), Check.INVALID);
        check.due("greatestStable", x.greatestStable(), 0);
        check.due("window", x.window(0), Check.INVALID);
        ChangingRounds removed = check.loaded("full;");
        removed.removeRound(0);
        check.due("round then", removed.round(0, 0), Check.INVALID);
        check.due("greatestStable then", removed.greatestStable(), 0);
        check.due("isStable(1) then", removed.isStable(1), Check.INVALID);
    }
}
