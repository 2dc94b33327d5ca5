/** Promises 24, 25 and 28 to 30: gossip with one token a step, and the counting. */
public final class GossipTest {
    private static final int[] FAR = {Integer.MIN_VALUE, -1, 100, Integer.MAX_VALUE};
    private static final Check check = new Check();

    public static void main(String[] args) {
        leastOnPath();
        newestOnPath();
        turnOnPath();
        sentWithoutNeighbours();
        newestOfSeveral();
        gossipErrors();
        gossipTimeBounds();
        countingOfAll();
        countingApart();
        alarmsSpread();
        alarmsGoOneHopAStep();
        alarmsEndWithThePhase();
        nodeZeroIsLast();
        countingBeginsAnew();
        countingErrors();
        check.end();
    }

    private static void known(ChangingRounds x, int rule, int steps, int... due) {
        for (int node = 0; node < due.length; node++) {
            String call = "gossip(" + rule + ", " + node + ", " + steps + ")";
            check.due(call, x.gossip(rule, node, steps), due[node]);
        }
    }

    private static void leastOnPath() {
        ChangingRounds x = check.loaded("nodes 3;path;");
        known(x, 0, 0, 1, 2, 4);
        known(x, 0, 1, 3, 7, 6);
        // Node 1 sends 0 and then 2.
        known(x, 0, 2, 3, 7, 7);
        known(x, 0, 3, 7, 7, 7);
        check.due("gossipTime(0)", x.gossipTime(0), 3);
    }

    private static void newestOnPath() {
        ChangingRounds x = check.loaded("nodes 3;path;");
        known(x, 1, 1, 3, 7, 6);
        // Node 1 learned 0 and 2 at once and sends the greatest for ever.
        known(x, 1, 2, 7, 7, 6);
        known(x, 1, 99, 7, 7, 6);
        check.due("gossipTime(1)", x.gossipTime(1), Check.NONE);
    }

    private static void turnOnPath() {
        ChangingRounds x = check.loaded("nodes 3;path;");
        known(x, 2, 1, 3, 7, 6);
        known(x, 2, 2, 3, 7, 6);
        known(x, 2, 3, 7, 7, 6);
        known(x, 2, 4, 7, 7, 7);
        check.due("gossipTime(2)", x.gossipTime(2), 4);
    }

    private static void sentWithoutNeighbours() {
        ChangingRounds x = check.loaded("nodes 3;none;path;");
        known(x, 0, 2, 3, 7, 6);
        // Node 1 chose 0 in the step without edges, so it sends 2 next.
        known(x, 0, 4, 7, 7, 6);
        // Then it has sent all and begins with the smallest one.
        known(x, 0, 6, 7, 7, 7);
        check.due("gossipTime(0)", x.gossipTime(0), 6);
    }

    private static void newestOfSeveral() {
        // Node 1 learns 3 first and 0 later: 0 is the newest, though smaller.
        ChangingRounds x = check.loaded("nodes 4;13;01;12;");
        known(x, 1, 2, 9, 11, 4, 10);
        known(x, 1, 3, 9, 15, 5, 10);
        // Node 0 learns all others at once and sends 7.
        ChangingRounds star = check.loaded("nodes 8;star 0;");
        known(star, 1, 2, 255, 131, 133, 137, 145, 161, 193, 129);
    }

    private static void gossipErrors() {
        ChangingRounds x = check.loaded("nodes 3;path;");
        check.due("rule 3", x.gossip(3, 0, 0), Check.INVALID);
        check.due("node 3", x.gossip(0, 3, 0), Check.INVALID);
        check.due("rule 3 of gossipTime", x.gossipTime(3), Check.INVALID);
        for (int far : FAR) {
            check.due("far rule", x.gossip(far, 0, 0), Check.INVALID);
            check.due("far node", x.gossip(0, far, 0), Check.INVALID);
            check.due("far steps", x.gossip(0, 0, far), Check.INVALID);
            check.due("far rule of gossipTime", x.gossipTime(far), Check.INVALID);
        }
    }

    private static void gossipTimeBounds() {
        ChangingRounds none = new ChangingRounds();
        for (int rule = 0; rule < 3; rule++) {
            check.due("without rounds", none.gossipTime(rule), Check.NONE);
            check.due("without rounds", none.gossip(rule, 1, 99), 2);
        }
        ChangingRounds two = check.loaded("nodes 2;path;");
        for (int rule = 0; rule < 3; rule++) {
            check.due("two nodes", two.gossipTime(rule), 1);
        }
        // The star is there in the steps 10, 21, .. 98, whose turns are 2 5 0 3 6 1 4 7 2:
        // in the first one node 0 learns all tokens, in the others it tells them one by one.
        ChangingRounds star = check.loaded("nodes 8;none;repeat 9;star 0;");
        check.due("the 99th step", star.gossipTime(2), 99);
        check.due("before the 99th step", star.gossip(2, 1, 98), 251);
        check.due("after the 99th step", star.gossip(2, 1, 99), 255);
        // Here the last token is learned in the step with the number 99, the 100th.
        ChangingRounds late = check.loaded("nodes 7;none;repeat 1;01 23;path;");
        check.due("the 100th step", late.gossipTime(2), Check.NONE);
    }

    private static void counts(ChangingRounds x, int steps, int wrong, int... due) {
        for (int node = 0; node < due.length; node++) {
            check.due("counted(" + node + ")", x.counted(node), due[node]);
        }
        check.due("countingSteps()", x.countingSteps(), steps);
        check.due("wrongCounts()", x.wrongCounts(), wrong);
    }

    private static void countingOfAll() {
        counts(new ChangingRounds(), 2, 4, 1, 1, 1, 1);
        counts(check.loaded("nodes 2;path;"), 6, 0, 2, 2);
        counts(check.loaded("nodes 3;full;"), 14, 0, 3, 3, 3);
        counts(check.loaded("nodes 4;full;"), 14, 0, 4, 4, 4, 4);
        counts(check.loaded("nodes 5;full;"), 30, 0, 5, 5, 5, 5, 5);
        counts(check.loaded("nodes 8;full;"), 30, 0, 8, 8, 8, 8, 8, 8, 8, 8);
        counts(check.loaded("nodes 8;path;"), 30, 0, 8, 8, 8, 8, 8, 8, 8, 8);
    }

    private static void countingApart() {
        counts(check.loaded("nodes 3;01;"), 6, 3, 2, 2, 1);
        counts(check.loaded("nodes 5;01 12 34;"), 14, 5, 3, 3, 3, 2, 2);
    }

    private static void alarmsSpread() {
        // Node 2 knows only itself after the first step, but node 1 gives it an alarm.
        counts(check.loaded("nodes 3;01;12;"), 14, 0, 3, 3, 3);
    }

    private static void alarmsGoOneHopAStep() {
        // In the first phase the alarm of 1 reaches 2 but not 3, which decides for 1.
        counts(check.loaded("nodes 4;01;path;"), 14, 2, 3, 4, 4, 1);
    }

    private static void alarmsEndWithThePhase() {
        // The edge 12 comes a step too late for the alarm of 1 in the first phase.
        counts(check.loaded("nodes 3;01;none;12;"), 14, 1, 3, 3, 1);
    }

    private static void nodeZeroIsLast() {
        // In the second phase node 0 alone knows more than 2 tokens, and no alarm spreads.
        counts(check.loaded("nodes 3;full;none;repeat 1;star 0;none;repeat 1;"), 14, 2, 3, 2, 2);
    }

    private static void countingBeginsAnew() {
        ChangingRounds x = check.loaded("nodes 3;full;");
        check.due("countingSteps of full", x.countingSteps(), 14);
        check.due("wrongCounts of full", x.wrongCounts(), 0);
        x.removeRound(0);
        check.due("countingSteps without rounds", x.countingSteps(), 2);
        x.undo();
        check.due("wrongCounts of full again", x.wrongCounts(), 0);
        x.removeRound(0);
        check.due("wrongCounts without rounds", x.wrongCounts(), 3);
        check.due("counted(0) without rounds", x.counted(0), 1);
    }

    private static void countingErrors() {
        ChangingRounds x = check.loaded("nodes 3;path;");
        check.due("counted(3)", x.counted(3), Check.INVALID);
        for (int far : FAR) {
            check.due("far counted", x.counted(far), Check.INVALID);
        }
    }
}
