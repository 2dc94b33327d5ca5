/** Boundary cases of promises 20 to 23, 26 and 27, and of what the description says of steps. */
public final class FloodingBoundsTest {
    private static final Check check = new Check();

    public static void main(String[] args) {
        stepsBeginAnew();
        farSteps();
        stepsWithoutRounds();
        ownTokenAtFirst();
        oneEdgeAStep();
        smallestNumberOfSteps();
        heardErrors();
        heardLastStep();
        journeyErrors();
        journeyNever();
        longestJourney();
        diameterErrors();
        diameterNever();
        center();
        centerNone();
        decisionOfSmallest();
        decisionErrors();
        agreementSteps();
        agreementNone();
        check.end();
    }

    /** Sixteen rounds, of which only one has edges. */
    private static String only(int active, String head, String item) {
        StringBuilder text = new StringBuilder(head);
        for (int round = 0; round < 16; round++) {
            text.append(round == active ? item + ";" : "none;");
        }
        return text.toString();
    }

    private static void stepsBeginAnew() {
        check.says("Behind the last round the schedule begins anew with round 0, and so on; so "
                + "step t (from 0) uses the edges of round t modulo the number of rounds.");
        ChangingRounds x = check.loaded("01;02;03;");
        int[] due = {3, 5, 9};
        for (int step = 0; step < 100; step++) {
            check.due("step " + step, x.heard(0, step, 1), due[step % 3]);
        }
        ChangingRounds one = check.loaded("01;");
        check.due("one round, step 0", one.heard(0, 0, 1), 3);
        check.due("one round, step 1", one.heard(0, 1, 1), 3);
        check.due("one round, step 99", one.heard(0, 99, 1), 3);
        ChangingRounds last = check.loaded(only(15, "", "01"));
        check.due("step 14", last.heard(0, 14, 1), 1);
        check.due("step 15", last.heard(0, 15, 1), 3);
        check.due("step 16", last.heard(0, 16, 1), 1);
        check.due("step 31", last.heard(0, 31, 1), 3);
        ChangingRounds first = check.loaded(only(0, "", "01"));
        check.due("behind the last one", first.heard(0, 15, 1), 1);
        check.due("round 0 again", first.heard(0, 16, 1), 3);
        check.due("over the end", first.heard(0, 15, 2), 3);
        check.due("round 0 for the seventh time", first.heard(0, 96, 1), 3);
        // The number of rounds is the present one.
        last.removeRound(0);
        check.due("step 14 of 15 rounds", last.heard(0, 14, 1), 3);
        check.due("step 29 of 15 rounds", last.heard(0, 29, 1), 3);
        check.due("step 15 of 15 rounds", last.heard(0, 15, 1), 1);
    }

    private static void farSteps() {
        check.says("and so on; so step t (from 0) uses the edges of round t modulo the number of "
                + "rounds.");
        // Step 197, the last one of heard(.., 99, 99), uses round 5 for the seventh time.
        ChangingRounds x = check.loaded(only(5, "nodes 8;", "path"));
        check.due("steps 99 to 197", x.heard(7, 99, 99), 255);
        check.due("steps 99 to 196", x.heard(7, 99, 98), 254);
        check.due("steps 98 to 196", x.heard(7, 98, 99), 254);
        check.due("journey", x.journey(0, 7, 99), 99);
        check.due("diameter", x.diameter(99), 99);
        ChangingRounds next = check.loaded(only(6, "nodes 8;", "path"));
        check.due("step 198 is not reached", next.heard(7, 99, 99), 254);
        check.due("journey to step 198", next.journey(0, 7, 99), 100);
        check.due("diameter to step 198", next.diameter(99), 100);
    }

    private static void stepsWithoutRounds() {
        check.says("If there are no rounds, no step has edges.");
        for (int nodes : new int[] {2, 4, 8}) {
            ChangingRounds x = check.loaded("nodes " + nodes + ";");
            int last = nodes - 1;
            check.due("heard", x.heard(last, 0, 99), 1 << last);
            check.due("heard from 99", x.heard(0, 99, 99), 1);
            check.due("journey", x.journey(0, last, 0), Check.NONE);
            check.due("journey to itself", x.journey(last, last, 99), 0);
            check.due("diameter", x.diameter(0), Check.NONE);
            check.due("diameter from 99", x.diameter(99), Check.NONE);
            check.due("center", x.center(), Check.NONE);
            check.due("decision", x.decision(last, 99), last);
            check.due("agreement", x.agreement(), Check.NONE);
            for (int rule = 0; rule <= 2; rule++) {
                check.due("gossip", x.gossip(rule, last, 99), 1 << last);
                check.due("gossipTime", x.gossipTime(rule), Check.NONE);
            }
            check.due("counted", x.counted(last), 1);
            check.due("countingSteps", x.countingSteps(), 2);
            check.due("wrongCounts", x.wrongCounts(), nodes);
        }
        ChangingRounds removed = check.loaded("full;");
        removed.removeRound(0);
        check.due("heard then", removed.heard(0, 0, 99), 1);
        check.due("diameter then", removed.diameter(0), Check.NONE);
    }

    private static void ownTokenAtFirst() {
        check.says("In a flooding that begins with step f, each node knows its own token at first;");
        ChangingRounds x = check.loaded("nodes 8;full;");
        for (int node = 0; node < 8; node++) {
            check.due("no step", x.heard(node, 0, 0), 1 << node);
            check.due("no step from 99", x.heard(node, 99, 0), 1 << node);
        }
        // What was known before step f does not count.
        ChangingRounds early = check.loaded("01;12;");
        check.due("from 1 on", early.heard(2, 1, 1), 6);
        check.due("from 0 on", early.heard(2, 0, 2), 7);
    }

    private static void oneEdgeAStep() {
        check.says("in each step each node sends all tokens that it knows to its neighbours in "
                + "this step; what it receives it knows from the end of the step on.");
        ChangingRounds up = check.loaded("nodes 8;path;");
        int fromBelow = 1;
        int fromAbove = 128;
        for (int steps = 0; steps <= 7; steps++) {
            check.due("node 0", up.heard(0, 0, steps), fromBelow);
            check.due("node 7", up.heard(7, 0, steps), fromAbove);
            fromBelow = fromBelow << 1 | 1;
            fromAbove = fromAbove >> 1 | 128;
        }
        check.due("not more than all", up.heard(3, 0, 99), 255);
    }

    private static void smallestNumberOfSteps() {
        check.says("Node b hears of node a after k steps if it knows the token of a after k steps "
                + "and k is the smallest such number (0 for a itself).");
        ChangingRounds x = check.loaded("nodes 8;path;");
        for (int node = 0; node < 8; node++) {
            check.due("of itself", x.journey(node, node, 0), 0);
            check.due("of itself from 99", x.journey(node, node, 99), 0);
            check.due("of 0", x.journey(0, node, 0), node);
            check.due("of 7", x.journey(7, node, 0), 7 - node);
        }
        check.due("soonest of two ways", check.loaded("01 12 02;").journey(0, 2, 0), 1);
        check.due("itself without an edge", check.loaded("nodes 2;none;").journey(1, 1, 0), 0);
    }

    private static void heardErrors() {
        check.says("Returns the set (bit i for node i); INVALID_ARGUMENT if an argument is out of "
                + "range.");
        check.range("from", 0, 99, from -> check.loaded("path;").heard(0, from, 1));
        check.range("steps", 0, 99, steps -> check.loaded("path;").heard(0, 0, steps));
        check.range("from without rounds", 0, 99, from -> new ChangingRounds().heard(0, from, 1));
        check.range("steps without rounds", 0, 99, steps -> new ChangingRounds().heard(0, 0, steps));
        check.due("all wrong", check.loaded("path;").heard(4, 100, 100), Check.INVALID);
        check.due("all bits", check.loaded("nodes 8;full;").heard(7, 0, 1), 255);
        check.due("bits of two", check.loaded("nodes 2;full;").heard(1, 0, 1), 3);
    }

    private static void heardLastStep() {
        check.says("steps: 0 to 99");
        // Step 98, the last one of 99 steps, uses round 2 for the seventh time.
        ChangingRounds x = check.loaded(only(2, "nodes 8;", "path"));
        check.due("98 steps", x.heard(7, 0, 98), 254);
        check.due("99 steps", x.heard(7, 0, 99), 255);
        check.due("decision after 98 steps", x.decision(7, 98), 1);
        check.due("decision after 99 steps", x.decision(7, 99), 0);
    }

    private static void journeyErrors() {
        check.says("Returns the number of steps; INVALID_ARGUMENT if an argument is out of range; "
                + "NONE if it never does.");
        check.range("from", 0, 99, from -> check.loaded("path;").journey(0, 3, from));
        check.says("NONE is no error, and it is returned only if no error code applies.");
        ChangingRounds never = check.loaded("01;");
        check.due("never", never.journey(0, 3, 0), Check.NONE);
        check.due("never, from 100", never.journey(0, 3, 100), Check.INVALID);
        check.due("never, from -1", never.journey(0, 3, -1), Check.INVALID);
        check.due("no node 4", never.journey(0, 4, 0), Check.INVALID);
        check.due("no node 4 of which is heard", never.journey(4, 0, 0), Check.INVALID);
        check.due("no node 4, of itself", never.journey(4, 4, 0), Check.INVALID);
    }

    private static void journeyNever() {
        check.says("NONE if it never does.");
        ChangingRounds apart = check.loaded("nodes 8;01 12 23;45 56 67;");
        check.due("0 to 3", apart.journey(0, 3, 0), 5);
        check.due("3 to 4", apart.journey(3, 4, 0), Check.NONE);
        check.due("7 to 0", apart.journey(7, 0, 99), Check.NONE);
        check.due("node without edges", check.loaded("nodes 3;01;").journey(2, 0, 0), Check.NONE);
    }

    private static void longestJourney() {
        check.says("Returns after how many steps a node hears of another one.");
        // The path is there in the last of 16 rounds: each of 7 edges waits for a whole turn.
        ChangingRounds x = check.loaded(only(15, "nodes 8;", "path"));
        check.due("7 turns", x.journey(0, 7, 0), 112);
        check.due("7 turns back", x.journey(7, 0, 0), 112);
        check.due("7 turns from 96", x.journey(0, 7, 96), 112);
        check.due("a step less", x.journey(0, 7, 1), 111);
        check.due("no step to wait", x.journey(0, 7, 15), 97);
        check.due("diameter", x.diameter(0), 112);
        check.due("diameter from 96", x.diameter(96), 112);
        check.due("agreement", x.agreement(), 112);
        check.due("center", x.center(), 3);
        // Here each round has one edge of the path, in the order that is worst for node 0.
        ChangingRounds back = check.loaded("nodes 8;67;56;45;34;23;12;01;");
        check.due("up, against the order", back.journey(0, 7, 0), 43);
        check.due("down, with the order", back.journey(7, 0, 0), 7);
        check.due("diameter against the order", back.diameter(0), 43);
    }

    private static void diameterErrors() {
        check.says("Returns the number of steps after which each node knows all tokens; "
                + "INVALID_ARGUMENT if from is out of range; NONE if this never happens.");
        check.range("from", 0, 99, from -> check.loaded("path;").diameter(from));
        check.range("from, never", 0, 99, from -> check.loaded("none;").diameter(from));
        check.range("from, without rounds", 0, 99, from -> new ChangingRounds().diameter(from));
        check.says("Returns the greatest journey of all pairs of nodes.");
        check.due("2 nodes", check.loaded("nodes 2;01;").diameter(0), 1);
        check.due("2 nodes, late", check.loaded(only(15, "nodes 2;", "01")).diameter(0), 16);
        check.due("2 nodes, at once", check.loaded(only(15, "nodes 2;", "01")).diameter(15), 1);
        check.due("full", check.loaded("nodes 8;full;").diameter(99), 1);
        check.due("path", check.loaded("nodes 8;path;").diameter(0), 7);
    }

    private static void diameterNever() {
        check.says("NONE if this never happens.");
        check.due("one alone", check.loaded("nodes 8;01 12 23 34 45 56;").diameter(0), Check.NONE);
        check.due("0 alone", check.loaded("nodes 8;12 23 34 45 56 67;").diameter(0), Check.NONE);
        check.due("two halves", check.loaded("01;23;").diameter(0), Check.NONE);
        check.due("joined by the last", check.loaded("01;23;12;").diameter(0), 5);
    }

    private static void center() {
        check.says("Returns the node, of several the smallest one; NONE if there is no node of "
                + "which all others hear.");
        check.due("2 nodes", check.loaded("nodes 2;01;").center(), 0);
        check.due("all alike", check.loaded("nodes 8;full;").center(), 0);
        check.due("ring", check.loaded("nodes 8;ring;").center(), 0);
        check.due("two middle ones", check.loaded("nodes 8;path;").center(), 3);
        check.due("the last", check.loaded("nodes 8;star 7;").center(), 7);
        check.says("Finds the node of which all others hear soonest in the flooding that begins "
                + "with step 0, that is, the greatest journey from it is smallest.");
        // All hear of 2 and of 3 after three steps, of 0 and 1 later.
        check.due("the smaller of 2 and 3", check.loaded("23;12;01;").center(), 2);
        // It begins with step 0: the star of node 3 comes first.
        check.due("the first round", check.loaded("star 3;star 0;").center(), 3);
    }

    private static void centerNone() {
        check.says("NONE if there is no node of which all others hear.");
        check.due("no edges", check.loaded("none;").center(), Check.NONE);
        check.due("no rounds", new ChangingRounds().center(), Check.NONE);
        check.due("0 alone", check.loaded("12 23;").center(), Check.NONE);
        check.due("3 alone", check.loaded("01 12;").center(), Check.NONE);
        check.due("two halves", check.loaded("01;23;").center(), Check.NONE);
    }

    private static void decisionOfSmallest() {
        check.says("A node decides after k steps of a flooding that begins with step 0 for the "
                + "smallest value of all nodes whose token it knows.");
        ChangingRounds x = check.loaded("nodes 8;path;");
        for (int node = 0; node < 8; node++) {
            x.setValue(node, 99);
        }
        check.due("all greatest", x.decision(0, 99), 99);
        check.due("no step", x.decision(0, 0), 99);
        x.setValue(7, 98);
        check.due("before it hears", x.decision(0, 6), 99);
        check.due("when it hears", x.decision(0, 7), 98);
        x.setValue(0, 0);
        check.due("its own least", x.decision(0, 7), 0);
        check.due("its own least at once", x.decision(0, 0), 0);
        ChangingRounds late = check.loaded("01;12;");
        check.due("begins with step 0", late.decision(2, 1), 2);
        check.due("two steps", late.decision(2, 2), 0);
    }

    private static void decisionErrors() {
        check.says("Returns the value; INVALID_ARGUMENT if an argument is out of range.");
        check.range("node", 0, 3, node -> check.loaded("path;").decision(node, 1));
        check.range("steps", 0, 99, steps -> check.loaded("path;").decision(0, steps));
        check.range("steps without rounds", 0, 99,
                steps -> new ChangingRounds().decision(0, steps));
        check.due("both wrong", check.loaded("path;").decision(4, 100), Check.INVALID);
    }

    private static void agreementSteps() {
        check.says("Returns after how many steps all nodes decide for the same value. "
                + "Returns the smallest such number of steps; NONE if there is none.");
        ChangingRounds x = check.loaded("nodes 2;01;");
        check.due("2 nodes", x.agreement(), 1);
        x.setValue(0, 1);
        check.due("at once", x.agreement(), 0);
        ChangingRounds ends = check.loaded("nodes 8;path;");
        check.due("smallest at an end", ends.agreement(), 7);
        ends.setValue(7, 0);
        check.due("smallest at both ends", ends.agreement(), 3);
        ends.setValue(0, 99);
        check.due("smallest at the other end", ends.agreement(), 7);
        ends.setValue(3, 0);
        check.due("smallest at 3 and 7", ends.agreement(), 3);
        // It is more than 99 steps: each of 7 edges waits for a turn of 16 rounds.
        check.due("112 steps", check.loaded(only(15, "nodes 8;", "path")).agreement(), 112);
    }

    private static void agreementNone() {
        check.says("NONE if there is none.");
        ChangingRounds x = check.loaded("01 23;");
        check.due("two halves", x.agreement(), Check.NONE);
        x.setValue(2, 0);
        check.due("a smallest value in each half", x.agreement(), 1);
        ChangingRounds none = new ChangingRounds();
        check.due("without rounds", none.agreement(), Check.NONE);
        for (int node = 0; node < 4; node++) {
            none.setValue(node, 99);
        }
        check.due("all the same without rounds", none.agreement(), 0);
        none.setValue(3, 98);
        check.due("the last node differs", none.agreement(), Check.NONE);
    }
}
