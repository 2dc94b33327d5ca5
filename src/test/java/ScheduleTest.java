/** Promises 1 to 11 and 31: the schedule, the values and undo. */
public final class ScheduleTest {
    private static final int[] FAR = {Integer.MIN_VALUE, -1, 16, 100, Integer.MAX_VALUE};
    private static final Check check = new Check();

    public static void main(String[] args) {
        newObject();
        setNodes();
        addRound();
        addRoundOverOldEdges();
        setEdge();
        allEdgesOfEight();
        removeRound();
        swapRounds();
        adversaryPath();
        adversaryStar();
        adversaryCliques();
        adversaryErrors();
        values();
        edge();
        count();
        undo();
        undoKeepsSix();
        undoOfEachCall();
        errorsSaveNothing();
        check.end();
    }

    private static void newObject() {
        ChangingRounds x = new ChangingRounds();
        check.due("new count(0)", x.count(0), 4);
        for (int what = 1; what <= 5; what++) {
            check.due("new count(" + what + ")", x.count(what), 0);
        }
        for (int node = 0; node < 4; node++) {
            check.due("new value", x.value(node), node);
        }
        check.due("new value(4)", x.value(4), Check.INVALID);
        check.due("new undo", x.undo(), Check.STATE);
        check.due("new clearText", x.clearText(), 0);
        ChangingRounds other = new ChangingRounds();
        other.addRound();
        check.due("objects are apart", x.count(1), 0);
    }

    private static void setNodes() {
        ChangingRounds x = check.loaded("nodes 5;full;path;");
        for (int nodes : new int[] {Integer.MIN_VALUE, -1, 0, 1, 9, Integer.MAX_VALUE}) {
            check.due("setNodes(" + nodes + ")", x.setNodes(nodes), Check.INVALID);
        }
        check.due("rounds after wrong setNodes", x.count(1), 2);
        check.due("saved after wrong setNodes", x.count(5), 1);
        x.setValue(0, 60);
        x.setValue(1, 50);
        check.due("setNodes(8)", x.setNodes(8), 5);
        check.due("nodes", x.count(0), 8);
        check.due("rounds", x.count(1), 0);
        for (int node = 0; node < 8; node++) {
            check.due("value after setNodes", x.value(node), node);
        }
        check.due("setNodes(2)", x.setNodes(2), 8);
        check.due("value(2) of 2 nodes", x.value(2), Check.INVALID);
        check.due("setNodes(2) again", x.setNodes(2), 2);
        check.due("saved", x.count(5), 6);
    }

    private static void addRound() {
        ChangingRounds x = check.loaded("full;");
        for (int round = 1; round < 16; round++) {
            check.due("addRound", x.addRound(), round);
            check.due("edges of a new round", x.round(round, 0), 0);
        }
        check.due("addRound 17", x.addRound(), Check.CAPACITY);
        check.due("rounds", x.count(1), 16);
        check.due("undo after refused addRound", x.undo(), 5);
        check.due("rounds after undo", x.count(1), 15);
        check.due("addRound after undo", x.addRound(), 15);
        x.removeRound(0);
        check.due("addRound after removeRound", x.addRound(), 15);
    }

    private static void addRoundOverOldEdges() {
        ChangingRounds x = check.loaded("full;");
        x.removeRound(0);
        x.addRound();
        check.due("a new round has no old edges", x.round(0, 0), 0);
    }

    private static void setEdge() {
        ChangingRounds x = new ChangingRounds();
        check.due("setEdge without rounds", x.setEdge(0, 0, 1, 1), Check.INVALID);
        x.addRound();
        x.addRound();
        check.due("setEdge", x.setEdge(0, 0, 1, 1), 1);
        check.due("setEdge again", x.setEdge(0, 0, 1, 1), Check.STATE);
        check.due("setEdge the other way", x.setEdge(0, 1, 0, 1), Check.STATE);
        check.due("setEdge of another round", x.setEdge(1, 1, 0, 1), 1);
        check.due("setEdge 2 3", x.setEdge(0, 3, 2, 1), 2);
        check.due("take what is not there", x.setEdge(0, 0, 2, 0), Check.STATE);
        check.due("take the other way", x.setEdge(0, 1, 0, 0), 1);
        check.due("take again", x.setEdge(0, 0, 1, 0), Check.STATE);
        check.due("the other edge is kept", x.edge(0, 2, 3), 1);
        check.due("the other round is kept", x.edge(1, 0, 1), 1);
        check.due("same node", x.setEdge(0, 2, 2, 1), Check.INVALID);
        check.due("same node off", x.setEdge(0, 2, 2, 0), Check.INVALID);
        check.due("on 2", x.setEdge(0, 0, 2, 2), Check.INVALID);
        check.due("on -1", x.setEdge(0, 0, 2, -1), Check.INVALID);
        check.due("wrong on where it is so", x.setEdge(0, 2, 3, 2), Check.INVALID);
        check.due("node 4 of 4", x.setEdge(0, 0, 4, 1), Check.INVALID);
        check.due("node 4 of 4 first", x.setEdge(0, 4, 0, 1), Check.INVALID);
        check.due("round 2 of 2", x.setEdge(2, 0, 1, 1), Check.INVALID);
        for (int far : FAR) {
            check.due("far round", x.setEdge(far, 0, 2, 1), Check.INVALID);
            check.due("far a", x.setEdge(0, far, 2, 1), Check.INVALID);
            check.due("far b", x.setEdge(0, 2, far, 1), Check.INVALID);
            check.due("far on", x.setEdge(0, 0, 2, far), Check.INVALID);
        }
        check.due("edges", x.count(2), 2);
    }

    private static void allEdgesOfEight() {
        ChangingRounds x = check.loaded("nodes 8;none;");
        int edges = 0;
        for (int a = 0; a < 8; a++) {
            for (int b = 0; b < a; b++) {
                edges++;
                check.due("edge is off", x.edge(0, a, b), 0);
                check.due("setEdge all", x.setEdge(0, a, b, 1), edges);
                check.due("edge is on", x.edge(0, b, a), 1);
            }
        }
        check.due("all edges", x.round(0, 0), 28);
    }

    private static void removeRound() {
        ChangingRounds x = check.loaded("none;path;full;01;");
        check.due("removeRound(4)", x.removeRound(4), Check.INVALID);
        for (int far : FAR) {
            check.due("far removeRound", x.removeRound(far), Check.INVALID);
        }
        check.due("removeRound(1)", x.removeRound(1), 3);
        check.due("round 0 stays", x.round(0, 0), 0);
        check.due("round 1 was 2", x.round(1, 0), 6);
        check.due("round 2 was 3", x.round(2, 0), 1);
        check.due("round 3 is gone", x.round(3, 0), Check.INVALID);
        check.due("remove the last", x.removeRound(2), 2);
        check.due("remove the first", x.removeRound(0), 1);
        check.due("full is left", x.round(0, 0), 6);
        check.due("remove the only one", x.removeRound(0), 0);
        check.due("remove without rounds", x.removeRound(0), Check.INVALID);
        x.undo();
        check.due("undo brings it back", x.round(0, 0), 6);
    }

    private static void swapRounds() {
        ChangingRounds x = check.loaded("path;ring;star 0;");
        check.due("path and star", x.swapRounds(0, 2), 4);
        check.due("round 0 is the star", x.edge(0, 0, 3), 1);
        check.due("round 0 is the star only", x.edge(0, 1, 2), 0);
        check.due("round 2 is the path", x.edge(2, 1, 2), 1);
        check.due("ring and path", x.swapRounds(2, 1), 1);
        check.due("round 2 is the ring", x.round(2, 0), 4);
        check.due("saved", x.count(5), 3);
        check.due("same round", x.swapRounds(1, 1), 0);
        check.due("same round is saved", x.count(5), 4);
        check.due("no round 3", x.swapRounds(0, 3), Check.INVALID);
        check.due("no round 3 first", x.swapRounds(3, 0), Check.INVALID);
        check.due("the same wrong round", x.swapRounds(3, 3), Check.INVALID);
        for (int far : FAR) {
            check.due("far first", x.swapRounds(far, 0), Check.INVALID);
            check.due("far second", x.swapRounds(0, far), Check.INVALID);
        }
        check.due("saved then", x.count(5), 4);
    }

    private static void adversaryPath() {
        ChangingRounds x = check.loaded("nodes 5;03 34;none;");
        // Node 3 is heard of by 0, 3 and 4, so the sequence is 0 3 4 1 2.
        check.due("path", x.addAdversary(0, 3), 4);
        check.due("0 3", x.edge(2, 0, 3), 1);
        check.due("3 4", x.edge(2, 3, 4), 1);
        check.due("4 1", x.edge(2, 4, 1), 1);
        check.due("1 2", x.edge(2, 1, 2), 1);
        ChangingRounds all = check.loaded("nodes 3;full;");
        check.due("path with all informed", all.addAdversary(0, 2), 2);
        check.due("all 0 1", all.edge(1, 0, 1), 1);
        check.due("all 1 2", all.edge(1, 1, 2), 1);
        // The order of the steps counts: 12 before 01 does not bring the token of 0 to 2,
        // so informed are 0 and 1.
        ChangingRounds late = check.loaded("nodes 4;12;01;");
        check.due("late path", late.addAdversary(0, 0), 3);
        check.due("late 0 1", late.edge(2, 0, 1), 1);
        check.due("late 1 2", late.edge(2, 1, 2), 1);
        check.due("late 2 3", late.edge(2, 2, 3), 1);
        check.due("late path of 3", late.addAdversary(0, 3), 3);
        // 3 told 2 in round 2: informed are 2 and 3, so the sequence is 2 3 0 1.
        check.due("late 3 0", late.edge(3, 3, 0), 1);
        check.due("late 1 2 is off", late.edge(3, 1, 2), 0);
    }

    private static void adversaryStar() {
        ChangingRounds x = check.loaded("nodes 4;01;");
        check.due("star", x.addAdversary(1, 0), 3);
        check.due("star at 2", x.round(1, 3), 3);
        check.due("2 0", x.edge(1, 2, 0), 1);
        check.due("2 1", x.edge(1, 2, 1), 1);
        check.due("2 3", x.edge(1, 2, 3), 1);
        ChangingRounds all = check.loaded("nodes 4;full;");
        check.due("star with all informed", all.addAdversary(1, 2), 3);
        check.due("all 2 0", all.edge(1, 2, 0), 1);
        check.due("all 2 1", all.edge(1, 2, 1), 1);
        check.due("all 2 3", all.edge(1, 2, 3), 1);
        ChangingRounds empty = new ChangingRounds();
        check.due("star without rounds", empty.addAdversary(1, 0), 3);
        check.due("star at 1", empty.edge(0, 1, 3), 1);
    }

    private static void adversaryCliques() {
        ChangingRounds x = check.loaded("nodes 6;13;");
        // Informed are 1 and 3; the others 0 2 4 5; the bridge is 3 0.
        check.due("cliques", x.addAdversary(2, 1), 8);
        check.due("1 3", x.edge(1, 1, 3), 1);
        check.due("3 0", x.edge(1, 3, 0), 1);
        check.due("1 0", x.edge(1, 1, 0), 0);
        check.due("3 2", x.edge(1, 3, 2), 0);
        check.due("0 5", x.edge(1, 0, 5), 1);
        check.due("2 4", x.edge(1, 2, 4), 1);
        ChangingRounds all = check.loaded("nodes 5;full;");
        check.due("cliques with all informed", all.addAdversary(2, 4), 10);
        ChangingRounds last = check.loaded("nodes 8;");
        check.due("cliques against 7", last.addAdversary(2, 7), 22);
        check.due("7 0", last.edge(0, 7, 0), 1);
        check.due("7 6", last.edge(0, 7, 6), 0);
        ChangingRounds empty = new ChangingRounds();
        check.due("cliques without rounds", empty.addAdversary(2, 3), 4);
        check.due("3 0 without rounds", empty.edge(0, 3, 0), 1);
    }

    private static void adversaryErrors() {
        ChangingRounds x = check.loaded("none;repeat 9;repeat 5;");
        check.due("kind 3", x.addAdversary(3, 0), Check.INVALID);
        check.due("kind -1", x.addAdversary(-1, 0), Check.INVALID);
        check.due("s 4", x.addAdversary(0, 4), Check.INVALID);
        check.due("s -1", x.addAdversary(0, -1), Check.INVALID);
        check.due("the sixteenth", x.addAdversary(0, 0), 3);
        check.due("the seventeenth", x.addAdversary(0, 0), Check.CAPACITY);
        check.due("wrong kind before no room", x.addAdversary(3, 0), Check.INVALID);
        check.due("wrong node before no room", x.addAdversary(0, 4), Check.INVALID);
        for (int far : FAR) {
            check.due("far kind", x.addAdversary(far, 0), Check.INVALID);
            check.due("far s", x.addAdversary(0, far), Check.INVALID);
        }
        check.due("saved", x.count(5), 2);
        check.due("undo", x.undo(), 1);
        check.due("rounds", x.count(1), 15);
    }

    private static void values() {
        ChangingRounds x = new ChangingRounds();
        check.due("setValue(2, 99)", x.setValue(2, 99), 2);
        check.due("setValue(2, 0)", x.setValue(2, 0), 99);
        check.due("setValue(2, 0) again", x.setValue(2, 0), 0);
        check.due("the same value is saved", x.count(5), 3);
        check.due("value(2)", x.value(2), 0);
        check.due("value(3)", x.value(3), 3);
        check.due("value 100", x.setValue(1, 100), Check.INVALID);
        check.due("value -1", x.setValue(1, -1), Check.INVALID);
        check.due("node 4", x.setValue(4, 1), Check.INVALID);
        for (int far : FAR) {
            check.due("far node", x.setValue(far, 1), Check.INVALID);
            check.due("far value(node)", x.value(far), Check.INVALID);
        }
        check.due("far value", x.setValue(1, Integer.MAX_VALUE), Check.INVALID);
        check.due("far low value", x.setValue(1, Integer.MIN_VALUE), Check.INVALID);
        check.due("value(1)", x.value(1), 1);
        check.due("saved", x.count(5), 3);
        x.addRound();
        x.removeRound(0);
        check.due("rounds leave values alone", x.value(2), 0);
    }

    private static void edge() {
        ChangingRounds x = check.loaded("nodes 3;01;12;");
        check.due("edge(0, 0, 1)", x.edge(0, 0, 1), 1);
        check.due("edge(0, 1, 0)", x.edge(0, 1, 0), 1);
        check.due("edge(0, 1, 2)", x.edge(0, 1, 2), 0);
        check.due("edge(1, 2, 1)", x.edge(1, 2, 1), 1);
        check.due("same node", x.edge(0, 1, 1), Check.INVALID);
        check.due("node 3", x.edge(0, 3, 1), Check.INVALID);
        check.due("node 3 second", x.edge(0, 1, 3), Check.INVALID);
        check.due("round 2", x.edge(2, 0, 1), Check.INVALID);
        for (int far : FAR) {
            check.due("far round", x.edge(far, 0, 1), Check.INVALID);
            check.due("far a", x.edge(0, far, 1), Check.INVALID);
            check.due("far b", x.edge(0, 1, far), Check.INVALID);
        }
    }

    private static void count() {
        ChangingRounds x = check.loaded("nodes 6;full;path;01 23 45;none;star 5;");
        Check.write(x, "abc");
        check.due("count(0)", x.count(0), 6);
        check.due("count(1)", x.count(1), 5);
        check.due("count(2)", x.count(2), 28);
        check.due("count(3)", x.count(3), 3);
        check.due("count(4)", x.count(4), 3);
        check.due("count(5)", x.count(5), 1);
        check.due("count(6)", x.count(6), Check.INVALID);
        for (int far : FAR) {
            check.due("far count", x.count(far), Check.INVALID);
        }
        ChangingRounds full = check.loaded("nodes 8;full;repeat 9;repeat 6;");
        check.due("edges of 16 full rounds", full.count(2), 448);
        check.due("connected rounds", full.count(3), 16);
    }

    private static void undo() {
        ChangingRounds x = new ChangingRounds();
        x.addRound();
        x.setEdge(0, 1, 2, 1);
        x.setValue(3, 44);
        Check.write(x, "full;");
        x.load();
        Check.write(x, "xy");
        check.due("undo load", x.undo(), 3);
        check.due("rounds", x.count(1), 1);
        check.due("edges", x.round(0, 0), 1);
        check.due("edge", x.edge(0, 1, 2), 1);
        check.due("value", x.value(3), 44);
        check.due("the text is left alone", x.count(4), 2);
        check.due("undo setValue", x.undo(), 2);
        check.due("value then", x.value(3), 3);
        check.due("undo setEdge", x.undo(), 1);
        check.due("edge then", x.edge(0, 1, 2), 0);
        check.due("undo addRound", x.undo(), 0);
        check.due("rounds then", x.count(1), 0);
        check.due("nothing to undo", x.undo(), Check.STATE);
        check.due("the text is left alone again", x.count(4), 2);
    }

    private static void undoKeepsSix() {
        ChangingRounds x = new ChangingRounds();
        for (int value = 10; value < 18; value++) {
            x.setValue(0, value);
            check.due("saved", x.count(5), Math.min(6, value - 9));
        }
        for (int left = 5; left >= 0; left--) {
            check.due("undo", x.undo(), left);
            check.due("value", x.value(0), 11 + left);
        }
        check.due("no seventh", x.undo(), Check.STATE);
        check.due("value stays", x.value(0), 11);
        x.setValue(0, 90);
        check.due("saved anew", x.count(5), 1);
        x.undo();
        check.due("undone anew", x.value(0), 11);
    }

    private static void undoOfEachCall() {
        ChangingRounds x = check.loaded("nodes 5;path;01;");
        x.setValue(4, 70);
        x.setNodes(3);
        x.undo();
        check.due("nodes", x.count(0), 5);
        check.due("rounds", x.count(1), 2);
        check.due("value", x.value(4), 70);
        x.swapRounds(0, 1);
        x.undo();
        check.due("swap undone", x.round(0, 0), 4);
        x.removeRound(0);
        x.undo();
        check.due("remove undone", x.round(0, 0), 4);
        check.due("remove undone, rounds", x.count(1), 2);
        x.addAdversary(2, 0);
        x.undo();
        check.due("adversary undone", x.count(1), 2);
        check.due("saved", x.count(5), 2);
    }

    private static void errorsSaveNothing() {
        ChangingRounds x = new ChangingRounds();
        x.setNodes(9);
        x.setEdge(0, 0, 1, 1);
        x.removeRound(0);
        x.swapRounds(0, 0);
        x.addAdversary(9, 0);
        x.setValue(0, 100);
        Check.write(x, "!");
        x.load();
        check.due("nothing saved", x.count(5), 0);
        x.heard(0, 0, 5);
        x.gossip(0, 0, 5);
        x.counted(0);
        check.due("questions save nothing", x.count(5), 0);
    }
}
