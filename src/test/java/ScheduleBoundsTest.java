import java.util.function.IntUnaryOperator;

/** Boundary cases of promises 1 to 11, and of what the description says of schedules. */
public final class ScheduleBoundsTest {
    private static final String SIXTEEN = "path;repeat 9;repeat 6;";
    private static final String FIFTEEN = "path;repeat 9;repeat 5;";
    private static final Check check = new Check();

    public static void main(String[] args) {
        nodesHaveNumbers();
        roundsHaveNumbers();
        edgesGoBothWays();
        valuesHaveBounds();
        connectedSets();
        newObject();
        setNodesRange();
        setNodesRemovesAll();
        addRoundNumbers();
        addRoundWithoutRoom();
        setEdgeFirstAndLast();
        setEdgeErrors();
        removeRoundShifts();
        removeRoundErrors();
        swapRoundsEnds();
        swapRoundsErrors();
        addAdversaryRanges();
        addAdversaryWithoutRoom();
        adversaryStepsAreTheRounds();
        adversaryPath();
        adversaryStar();
        adversaryCliques();
        setValueAnswers();
        edgeErrors();
        countOfLeastAndMost();
        valueErrors();
        check.end();
    }

    private static void nodesHaveNumbers() {
        check.says("There are N nodes, 2 to 8, numbered from 0 (at first 4).");
        check.due("at first", new ChangingRounds().count(0), 4);
        for (int nodes : new int[] {2, 3, 4, 7, 8}) {
            String text = "nodes " + nodes + ";path;";
            int last = nodes - 1;
            IntUnaryOperator other = node -> node == 0 ? 1 : 0;
            check.range("setEdge a", 0, last, n -> {
                ChangingRounds x = check.loaded("nodes " + nodes + ";none;");
                return x.setEdge(0, n, other.applyAsInt(n), 1);
            });
            check.range("setEdge b", 0, last, n -> {
                ChangingRounds x = check.loaded("nodes " + nodes + ";none;");
                return x.setEdge(0, other.applyAsInt(n), n, 1);
            });
            check.range("addAdversary", 0, last, n -> check.loaded(text).addAdversary(0, n));
            check.range("setValue", 0, last, n -> check.loaded(text).setValue(n, 7));
            check.range("value", 0, last, n -> check.loaded(text).value(n));
            check.range("edge a", 0, last,
                    n -> check.loaded(text).edge(0, n, other.applyAsInt(n)));
            check.range("edge b", 0, last,
                    n -> check.loaded(text).edge(0, other.applyAsInt(n), n));
            check.range("heard", 0, last, n -> check.loaded(text).heard(n, 0, 0));
            check.range("journey a", 0, last, n -> check.loaded(text).journey(n, 0, 0));
            check.range("journey b", 0, last, n -> check.loaded(text).journey(0, n, 0));
            check.range("gossip", 0, last, n -> check.loaded(text).gossip(0, n, 0));
            check.range("decision", 0, last, n -> check.loaded(text).decision(n, 0));
            check.range("counted", 0, last, n -> check.loaded(text).counted(n));
        }
    }

    private static void roundsHaveNumbers() {
        check.says("A schedule consists of at most 16 rounds, numbered from 0 "
                + "(at first there are none)");
        check.due("at first", new ChangingRounds().count(1), 0);
        String[] texts = {"path;", "path;repeat 1;", FIFTEEN, SIXTEEN};
        int[] rounds = {1, 2, 15, 16};
        for (int i = 0; i < texts.length; i++) {
            String text = texts[i];
            int last = rounds[i] - 1;
            check.range("setEdge", 0, last, r -> check.loaded(text).setEdge(r, 0, 2, 1));
            check.range("removeRound", 0, last, r -> check.loaded(text).removeRound(r));
            check.range("swapRounds", 0, last, r -> check.loaded(text).swapRounds(r, 0));
            check.range("swapRounds", 0, last, r -> check.loaded(text).swapRounds(0, r));
            check.range("edge", 0, last, r -> check.loaded(text).edge(r, 0, 1));
            check.range("round", 0, last, r -> check.loaded(text).round(r, 0));
            check.range("staying", 0, last, r -> check.loaded(text).staying(r, 1));
            check.range("window", 0, last, r -> check.loaded(text).window(r));
        }
        check.emptyRange("setEdge", r -> new ChangingRounds().setEdge(r, 0, 2, 1));
        check.emptyRange("removeRound", r -> new ChangingRounds().removeRound(r));
        check.emptyRange("swapRounds", r -> new ChangingRounds().swapRounds(r, r));
        check.emptyRange("edge", r -> new ChangingRounds().edge(r, 0, 1));
        check.emptyRange("round", r -> new ChangingRounds().round(r, 0));
        check.emptyRange("staying", r -> new ChangingRounds().staying(r, 1));
        check.emptyRange("window", r -> new ChangingRounds().window(r));
    }

    private static void edgesGoBothWays() {
        check.says("each round has a set of edges, each of which connects two different nodes "
                + "in both directions.");
        ChangingRounds x = check.loaded("nodes 8;none;");
        check.due("from the greater one", x.setEdge(0, 7, 0, 1), 1);
        check.edges(x, 0, "07");
        check.due("token of 0", x.heard(7, 0, 1), 129);
        check.due("token of 7", x.heard(0, 0, 1), 129);
        for (int node = 0; node < 8; node++) {
            check.due("one node", x.setEdge(0, node, node, 1), Check.INVALID);
            check.due("one node", x.edge(0, node, node), Check.INVALID);
        }
        check.due("taken away the other way", x.setEdge(0, 0, 7, 0), 0);
        check.edges(x, 0, "");
    }

    private static void valuesHaveBounds() {
        check.says("Each node has a value from 0 to 99 (at first its number).");
        check.range("setValue", 0, 99, v -> new ChangingRounds().setValue(0, v));
        ChangingRounds x = new ChangingRounds();
        for (int node = 0; node < 4; node++) {
            check.due("at first", x.value(node), node);
        }
        x.setValue(0, 99);
        x.setValue(3, 0);
        check.due("greatest", x.value(0), 99);
        check.due("least", x.value(3), 0);
    }

    private static void connectedSets() {
        check.says("A set of edges is connected if each node can be reached from each other one "
                + "along its edges.");
        connected("nodes 2;none;", 0);
        connected("nodes 2;01;", 1);
        connected("nodes 3;12;", 0);
        connected("nodes 3;02 12;", 1);
        connected("nodes 8;path;", 1);
        // The longest way goes over seven edges, up and down through the numbers.
        connected("nodes 8;07 71 16 62 25 53 34;", 1);
        connected("nodes 8;34 35 25 26 16 17 07;", 1);
        // Seven edges, but node 7 or node 0 stands alone.
        connected("nodes 8;01 12 23 34 45 56 06;", 0);
        connected("nodes 8;12 23 34 45 56 67 17;", 0);
        // Two halves, and the edge that joins them.
        connected("nodes 8;01 12 23 03 45 56 67 47;", 0);
        connected("nodes 8;01 12 23 03 45 56 67 47 37;", 1);
        aloneBesideTheFull(0);
        aloneBesideTheFull(7);
    }

    private static void connected(String text, int due) {
        ChangingRounds x = check.loaded(text);
        check.due(text + " round(0, 1)", x.round(0, 1), due);
        check.due(text + " count(3)", x.count(3), due);
        check.due(text + " isStable(1)", x.isStable(1), due);
        check.due(text + " window(0)", x.window(0), due);
    }

    private static void aloneBesideTheFull(int alone) {
        ChangingRounds x = check.loaded("nodes 8;full;");
        for (int node = 0; node < 8; node++) {
            if (node != alone) {
                check.due("still connected", x.round(0, 1), 1);
                x.setEdge(0, alone, node, 0);
            }
        }
        check.due("edges without a node", x.round(0, 0), 21);
        check.due("connected without a node", x.round(0, 1), 0);
        check.due("components without a node", x.round(0, 2), 2);
    }

    private static void newObject() {
        check.says("Creates a workbench with 4 nodes, without rounds, with an empty text.");
        ChangingRounds x = new ChangingRounds();
        int[] due = {4, 0, 0, 0, 0, 0};
        for (int what = 0; what < due.length; what++) {
            check.due("count(" + what + ")", x.count(what), due[what]);
        }
        check.due("clearText", x.clearText(), 0);
        check.due("undo", x.undo(), Check.STATE);
        check.due("load of the empty text", x.load(), 0);
    }

    private static void setNodesRange() {
        check.says("Returns the previous number; INVALID_ARGUMENT if nodes is out of range.");
        check.range("setNodes", 2, 8, n -> new ChangingRounds().setNodes(n));
        check.due("setNodes(0)", new ChangingRounds().setNodes(0), Check.INVALID);
        ChangingRounds x = new ChangingRounds();
        check.due("setNodes(2)", x.setNodes(2), 4);
        check.due("setNodes(8)", x.setNodes(8), 2);
        check.due("setNodes(8) again", x.setNodes(8), 8);
        check.due("setNodes(9)", x.setNodes(9), Check.INVALID);
        check.due("setNodes(2) then", x.setNodes(2), 8);
        check.due("nodes", x.count(0), 2);
    }

    private static void setNodesRemovesAll() {
        check.says("All rounds are removed, and the value of each node becomes its number.");
        ChangingRounds x = check.loaded("nodes 8;full;repeat 9;repeat 6;");
        x.setValue(0, 99);
        x.setValue(7, 0);
        check.due("the same number", x.setNodes(8), 8);
        check.due("rounds", x.count(1), 0);
        check.due("edges", x.count(2), 0);
        check.due("value(0)", x.value(0), 0);
        check.due("value(7)", x.value(7), 7);
        x.setValue(7, 50);
        x.setNodes(2);
        check.due("value(7) of 2 nodes", x.value(7), Check.INVALID);
        x.setNodes(8);
        check.due("value(7) does not come back", x.value(7), 7);
        check.due("without rounds", x.setNodes(3), 8);
        x.addRound();
        check.due("old edges do not come back", x.count(2), 0);
    }

    private static void addRoundNumbers() {
        check.says("Adds a round without edges behind the last one.");
        ChangingRounds x = check.loaded("full;repeat 9;repeat 6;");
        x.setNodes(8);
        for (int round = 0; round < 16; round++) {
            check.due("addRound", x.addRound(), round);
            check.due("rounds", x.count(1), round + 1);
            check.due("edges", x.round(round, 0), 0);
        }
        x.setEdge(15, 0, 1, 1);
        x.setEdge(14, 6, 7, 1);
        x.removeRound(15);
        check.due("addRound behind the last", x.addRound(), 15);
        check.due("without the edges that were there", x.round(15, 0), 0);
        check.due("the round before it", x.round(14, 0), 1);
    }

    private static void addRoundWithoutRoom() {
        check.says("Returns its number; CAPACITY_EXCEEDED if there are 16 rounds.");
        ChangingRounds x = check.loaded(FIFTEEN);
        check.due("the sixteenth", x.addRound(), 15);
        check.due("the seventeenth", x.addRound(), Check.CAPACITY);
        check.due("once more", x.addRound(), Check.CAPACITY);
        check.due("rounds", x.count(1), 16);
        x.removeRound(0);
        check.due("room again", x.addRound(), 15);
        check.due("no room again", x.addRound(), Check.CAPACITY);
    }

    private static void setEdgeFirstAndLast() {
        check.says("Returns the number of edges of the round then;");
        ChangingRounds x = check.loaded("nodes 8;none;full;");
        check.due("the first", x.setEdge(0, 6, 7, 1), 1);
        check.due("the last", x.setEdge(0, 7, 6, 0), 0);
        check.due("all but one", x.setEdge(1, 0, 1, 0), 27);
        check.due("all", x.setEdge(1, 1, 0, 1), 28);
        ChangingRounds two = check.loaded("nodes 2;none;");
        check.due("the only one", two.setEdge(0, 0, 1, 1), 1);
        check.due("the only one off", two.setEdge(0, 1, 0, 0), 0);
        ChangingRounds many = check.loaded(SIXTEEN);
        check.due("in round 15", many.setEdge(15, 0, 3, 1), 4);
        check.due("not in round 0", many.round(0, 0), 3);
        check.due("not in round 14", many.round(14, 0), 3);
    }

    private static void setEdgeErrors() {
        check.says("INVALID_ARGUMENT if an argument is out of range, or both nodes are the same; "
                + "ILLEGAL_STATE if it is so already.");
        check.range("on", 0, 1, on -> check.loaded(on == 0 ? "01;" : "none;").setEdge(0, 0, 1, on));
        ChangingRounds x = check.loaded("01;");
        check.due("on already", x.setEdge(0, 0, 1, 1), Check.STATE);
        check.due("on already, the other way", x.setEdge(0, 1, 0, 1), Check.STATE);
        check.due("off already", x.setEdge(0, 2, 3, 0), Check.STATE);
        check.due("same node on", x.setEdge(0, 0, 0, 1), Check.INVALID);
        check.due("same node off", x.setEdge(0, 3, 3, 0), Check.INVALID);
        check.due("same node that is not there", x.setEdge(0, 4, 4, 0), Check.INVALID);
        check.due("edges", x.round(0, 0), 1);
        check.says("If several error codes apply, the one that is named first in the description "
                + "of the method is returned;");
        check.due("wrong on, where the edge is", x.setEdge(0, 0, 1, 2), Check.INVALID);
        check.due("wrong on, where none is", x.setEdge(0, 2, 3, -1), Check.INVALID);
        check.due("wrong round, off", x.setEdge(1, 2, 3, 0), Check.INVALID);
        check.due("wrong node, off", x.setEdge(0, 2, 4, 0), Check.INVALID);
    }

    private static void removeRoundShifts() {
        check.says("The rounds with greater numbers get numbers that are 1 less.");
        ChangingRounds x = check.loaded("01;none;12;full;");
        check.due("the last", x.removeRound(3), 3);
        check.edges(x, 2, "12");
        check.due("the first", x.removeRound(0), 2);
        check.edges(x, 0, "");
        check.edges(x, 1, "12");
        check.due("the first again", x.removeRound(0), 1);
        check.edges(x, 0, "12");
        check.due("the only one", x.removeRound(0), 0);
        ChangingRounds many = check.loaded("01;none;repeat 9;repeat 4;23;");
        check.due("round 1 of 16", many.removeRound(1), 15);
        check.edges(many, 0, "01");
        check.edges(many, 14, "23");
        check.due("round 15 is gone", many.round(15, 0), Check.INVALID);
    }

    private static void removeRoundErrors() {
        check.says("Returns the number of rounds then; INVALID_ARGUMENT if there is no such round.");
        ChangingRounds x = check.loaded("01;12;");
        check.due("round 2 of 2", x.removeRound(2), Check.INVALID);
        check.due("round -1", x.removeRound(-1), Check.INVALID);
        check.due("round 1 of 2", x.removeRound(1), 1);
        check.due("round 1 of 1", x.removeRound(1), Check.INVALID);
        check.due("round 0 of 1", x.removeRound(0), 0);
        check.due("round 0 of 0", x.removeRound(0), Check.INVALID);
    }

    private static void swapRoundsEnds() {
        check.says("number of a round, possibly the same");
        ChangingRounds x = check.loaded("nodes 8;full;none;repeat 9;repeat 3;path;none;");
        check.due("the same", x.swapRounds(0, 0), 0);
        check.due("the same last one", x.swapRounds(15, 15), 0);
        check.due("equal rounds", x.swapRounds(1, 15), 0);
        check.says("Returns the number of edges in which they differ;");
        check.due("first and last", x.swapRounds(0, 15), 28);
        check.due("round 0", x.round(0, 0), 0);
        check.due("round 15", x.round(15, 0), 28);
        check.due("last and first", x.swapRounds(15, 0), 28);
        check.due("round 0 again", x.round(0, 0), 28);
        check.due("full and path", x.swapRounds(0, 14), 21);
    }

    private static void swapRoundsErrors() {
        check.says("Returns the number of edges in which they differ; "
                + "INVALID_ARGUMENT if there is no such round.");
        ChangingRounds x = check.loaded("01;12;");
        check.due("second too large", x.swapRounds(1, 2), Check.INVALID);
        check.due("first too large", x.swapRounds(2, 1), Check.INVALID);
        check.due("both too large", x.swapRounds(2, 2), Check.INVALID);
        check.due("second too small", x.swapRounds(0, -1), Check.INVALID);
        check.due("first too small", x.swapRounds(-1, 0), Check.INVALID);
        check.edges(x, 0, "01");
        check.edges(x, 1, "12");
    }

    private static void addAdversaryRanges() {
        check.says("Returns the number of its edges; INVALID_ARGUMENT if an argument is out of "
                + "range; CAPACITY_EXCEEDED if there are 16 rounds.");
        check.range("kind", 0, 2, kind -> new ChangingRounds().addAdversary(kind, 0));
        check.range("s", 0, 3, s -> new ChangingRounds().addAdversary(2, s));
        for (int kind = 0; kind <= 2; kind++) {
            for (int s = 0; s <= 1; s++) {
                ChangingRounds two = check.loaded("nodes 2;");
                check.due("of 2 nodes", two.addAdversary(kind, s), 1);
                check.due("of 2 nodes, informed", two.addAdversary(kind, s), 1);
            }
        }
        int[] due = {7, 7, 22};
        int[] dueInformed = {7, 7, 28};
        for (int kind = 0; kind <= 2; kind++) {
            check.due("of 8 nodes", check.loaded("nodes 8;").addAdversary(kind, 7), due[kind]);
            check.due("of 8 nodes, informed", check.loaded("nodes 8;full;").addAdversary(kind, 7),
                    dueInformed[kind]);
        }
    }

    private static void addAdversaryWithoutRoom() {
        check.says("CAPACITY_EXCEEDED if there are 16 rounds.");
        for (int kind = 0; kind <= 2; kind++) {
            ChangingRounds x = check.loaded(FIFTEEN);
            check.holds("the sixteenth", x.addAdversary(kind, 0) > 0);
            check.due("the seventeenth", x.addAdversary(kind, 0), Check.CAPACITY);
            check.due("rounds", x.count(1), 16);
        }
        ChangingRounds full = check.loaded(SIXTEEN);
        check.says("If several error codes apply, the one that is named first in the description "
                + "of the method is returned;");
        check.due("wrong kind without room", full.addAdversary(3, 0), Check.INVALID);
        check.due("small kind without room", full.addAdversary(-1, 0), Check.INVALID);
        check.due("wrong node without room", full.addAdversary(0, 4), Check.INVALID);
        check.due("small node without room", full.addAdversary(0, -1), Check.INVALID);
    }

    private static void adversaryStepsAreTheRounds() {
        check.says("let the informed nodes be those that know the token of s in the flooding that "
                + "begins with step 0, after as many steps as there are rounds before the new one "
                + "is added.");
        ChangingRounds none = new ChangingRounds();
        none.addAdversary(1, 0);
        check.edges(none, 0, "10 12 13");
        // The last of 15 rounds informs node 1, so the star is around node 2.
        ChangingRounds last = check.loaded("none;repeat 9;repeat 4;01;");
        check.due("sixteenth round", last.addAdversary(1, 0), 3);
        check.edges(last, 15, "20 21 23");
        // A third step would begin anew and inform node 2.
        ChangingRounds noTurn = check.loaded("12;01;");
        noTurn.addAdversary(1, 0);
        check.edges(noTurn, 2, "20 21 23");
        // After three steps of the schedule with the new round all are informed of 1.
        noTurn.addAdversary(1, 1);
        check.edges(noTurn, 3, "10 12 13");
    }

    private static void adversaryPath() {
        check.says("0 path: the edges between successive nodes in the sequence of all informed "
                + "nodes in ascending order, followed by all others in ascending order;");
        adversary("", 0, 0, "01 12 23");
        adversary("", 0, 3, "30 01 12");
        adversary("", 0, 1, "10 02 23");
        adversary("full;", 0, 3, "01 12 23");
        adversary("13;", 0, 3, "13 30 02");
        adversary("star 3;", 0, 0, "03 31 12");
        adversary("01 02;", 0, 0, "01 12 23");
        adversary("nodes 2;", 0, 1, "10");
        adversary("nodes 8;07;", 0, 7, "07 71 12 23 34 45 56");
    }

    private static void adversaryStar() {
        check.says("1 star: the edges from one node to all others: from the smallest node that is "
                + "not informed, or from s if all are;");
        adversary("", 1, 0, "10 12 13");
        adversary("", 1, 1, "01 02 03");
        adversary("star 1;", 1, 1, "10 12 13");
        adversary("full;", 1, 3, "30 31 32");
        adversary("01 12;", 1, 1, "30 31 32");
        adversary("nodes 2;", 1, 0, "10");
        adversary("nodes 2;01;", 1, 1, "10");
        adversary("nodes 8;star 0;", 1, 0, "01 02 03 04 05 06 07");
    }

    private static void adversaryCliques() {
        check.says("2 cliques: all edges between informed nodes, all edges between the others, "
                + "and, if there are others, the edge between the greatest informed node and the "
                + "smallest other one.");
        adversary("", 2, 0, "12 13 23 01");
        adversary("", 2, 3, "01 02 12 30");
        adversary("full;", 2, 2, "01 02 03 12 13 23");
        adversary("star 0;", 2, 0, "01 02 03 12 13 23");
        adversary("01 12;", 2, 1, "01 02 12 23");
        adversary("13;", 2, 1, "13 02 30");
        adversary("nodes 2;", 2, 1, "01");
        adversary("nodes 2;01;", 2, 1, "01");
        adversary("nodes 5;04;", 2, 4, "04 12 13 23 41");
    }

    private static void adversary(String text, int kind, int s, String edges) {
        ChangingRounds x = check.loaded(text);
        int due = (edges.length() + 1) / 3;
        check.due(text + " addAdversary(" + kind + ", " + s + ")", x.addAdversary(kind, s), due);
        check.edges(x, x.count(1) - 1, edges);
    }

    private static void setValueAnswers() {
        check.says("Returns the previous value; INVALID_ARGUMENT if an argument is out of range.");
        ChangingRounds x = check.loaded("nodes 8;");
        check.due("from its number", x.setValue(7, 99), 7);
        check.due("from the greatest", x.setValue(7, 0), 99);
        check.due("from the least", x.setValue(7, 0), 0);
        check.due("too large", x.setValue(7, 100), Check.INVALID);
        check.due("too small", x.setValue(7, -1), Check.INVALID);
        check.due("no node 8", x.setValue(8, 0), Check.INVALID);
        check.due("no node -1", x.setValue(-1, 0), Check.INVALID);
        check.due("both wrong", x.setValue(8, 100), Check.INVALID);
        check.due("value(7)", x.value(7), 0);
        check.due("value(6)", x.value(6), 6);
    }

    private static void edgeErrors() {
        check.says("Returns 1 or 0; INVALID_ARGUMENT if an argument is out of range, or both nodes "
                + "are the same.");
        ChangingRounds x = check.loaded("nodes 8;path;full;");
        check.due("last of the path", x.edge(0, 6, 7), 1);
        check.due("path does not close", x.edge(0, 7, 0), 0);
        check.due("last round", x.edge(1, 7, 0), 1);
        check.due("same node", x.edge(1, 7, 7), Check.INVALID);
        check.due("same first node", x.edge(1, 0, 0), Check.INVALID);
        check.due("same node that is not there", x.edge(1, 8, 8), Check.INVALID);
        check.due("no round 2", x.edge(2, 0, 1), Check.INVALID);
        check.due("no node 8", x.edge(1, 0, 8), Check.INVALID);
        check.due("no node 8 as a", x.edge(1, 8, 0), Check.INVALID);
    }

    private static void countOfLeastAndMost() {
        check.says("Returns the number; INVALID_ARGUMENT if what is out of range.");
        check.range("count", 0, 5, what -> new ChangingRounds().count(what));
        ChangingRounds most = check.loaded("nodes 8;full;repeat 9;repeat 6;");
        for (int i = 0; i < 6; i++) {
            most.setValue(0, i);
        }
        for (int i = 0; i < 121; i++) {
            most.appendCharacter(';');
        }
        int[] due = {8, 16, 448, 16, 120, 6};
        for (int what = 0; what < due.length; what++) {
            check.due("most count(" + what + ")", most.count(what), due[what]);
        }
        ChangingRounds least = check.loaded("nodes 2;none;repeat 9;repeat 6;");
        check.due("least nodes", least.count(0), 2);
        check.due("no edges in 16 rounds", least.count(2), 0);
        check.due("no connected one of 16 rounds", least.count(3), 0);
    }

    private static void valueErrors() {
        check.says("Returns the value; INVALID_ARGUMENT if there is no such node.");
        ChangingRounds x = check.loaded("nodes 8;");
        check.due("value(7)", x.value(7), 7);
        check.due("value(8)", x.value(8), Check.INVALID);
        check.due("value(-1)", x.value(-1), Check.INVALID);
        x.setNodes(2);
        check.due("value(1)", x.value(1), 1);
        check.due("value(2)", x.value(2), Check.INVALID);
    }
}
