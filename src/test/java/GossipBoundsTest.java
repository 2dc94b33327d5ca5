/** Boundary cases of promises 24, 25 and 28 to 30, and of gossip and counting as described. */
public final class GossipBoundsTest {
    private static final Check check = new Check();

    public static void main(String[] args) {
        gossipBeginsLikeAFlooding();
        leastSendsUnsentFirst();
        leastBeginsAnew();
        newestOfSeveral();
        newestIsTheLatest();
        newestIsNotRenewed();
        turnGoesRound();
        turnOfAnUnknownToken();
        choicesByTheBeginning();
        sentWithoutNeighbours();
        gossipErrors();
        gossipLastStep();
        gossipTimeErrors();
        gossipTimeOfTheLastNode();
        gossipTimeBound();
        guesses();
        moreThanTheGuess();
        phasesInTurn();
        lastPhase();
        alarmsOneEdgeAStep();
        alarmsToTheLastStep();
        decidedOnce();
        decidedTakePart();
        countingEnds();
        countedErrors();
        wrongCounts();
        check.end();
    }

    /** Rounds from their items; an empty item is a round without edges. */
    private static ChangingRounds rounds(int nodes, String... items) {
        StringBuilder text = new StringBuilder("nodes " + nodes + ";");
        for (String item : items) {
            text.append(item.isEmpty() ? "none" : item).append(';');
        }
        return check.loaded(text.toString());
    }

    private static void known(ChangingRounds x, int rule, int steps, int... due) {
        for (int node = 0; node < due.length; node++) {
            String call = "gossip(" + rule + ", " + node + ", " + steps + ")";
            check.due(call, x.gossip(rule, node, steps), due[node]);
        }
    }

    private static void gossipBeginsLikeAFlooding() {
        check.says("Gossip begins with step 0 like a flooding, but in each step each node sends "
                + "only one token to its neighbours in this step");
        for (int rule = 0; rule <= 2; rule++) {
            known(check.loaded("nodes 8;full;"), rule, 0, 1, 2, 4, 8, 16, 32, 64, 128);
            known(check.loaded("nodes 2;01;"), rule, 0, 1, 2);
            known(check.loaded("nodes 2;01;"), rule, 1, 3, 3);
            // Step 0 is that of round 0.
            known(rounds(4, "01", "23"), rule, 1, 3, 3, 4, 8);
            known(check.loaded("nodes 8;full;"), rule, 1, 255, 255, 255, 255, 255, 255, 255, 255);
            // The node in the middle gets a token from each neighbour.
            known(check.loaded("nodes 3;path;"), rule, 1, 3, 7, 6);
        }
        // Node 1 sends one of its two new tokens, so one end lacks the other's token.
        known(check.loaded("nodes 3;path;"), 0, 2, 3, 7, 7);
        known(check.loaded("nodes 3;path;"), 1, 2, 7, 7, 6);
        known(check.loaded("nodes 3;path;"), 2, 2, 3, 7, 6);
    }

    private static void leastSendsUnsentFirst() {
        check.says("0 least, the smallest token that it knows and has not sent yet");
        // Node 1 has sent 1, learns 0 and 2, and sends 0 and then 2 to node 3.
        ChangingRounds x = rounds(4, "01 12", "13", "13");
        known(x, 0, 2, 3, 15, 6, 9);
        known(x, 0, 3, 3, 15, 6, 13);
        // The greatest token is sent, too, if it is the only unsent one.
        ChangingRounds last = rounds(8, "67", "06");
        check.due("token 7", last.gossip(0, 0, 2), 129);
    }

    private static void leastBeginsAnew() {
        check.says("or, if it has sent all that it knows, the smallest one that it knows;");
        // Node 1 sends 1, 0, 2 and then 0 again and again.
        known(rounds(4, "01 12", "", "", "13"), 0, 4, 3, 15, 6, 9);
        known(rounds(4, "01 12", "", "", "", "13"), 0, 5, 3, 15, 6, 9);
        // A node that knows its own token only sends it again.
        known(rounds(2, "", "01"), 0, 2, 3, 3);
        // Node 7 has sent 7 and 5, and 5 is the smaller one.
        check.due("smaller than its own", rounds(8, "57", "", "27").gossip(0, 2, 3), 36);
    }

    private static void newestOfSeveral() {
        check.says("1 newest, the token that it has known for the shortest time, of several the "
                + "greatest one;");
        known(check.loaded("nodes 8;star 0;"), 1, 2, 255, 131, 133, 137, 145, 161, 193, 129);
        known(rounds(4, "01 12", "13"), 1, 2, 3, 15, 6, 12);
        // With its own token alone it sends this.
        known(rounds(2, "", "", "01"), 1, 3, 3, 3);
    }

    private static void newestIsTheLatest() {
        check.says("(A token that a node learns in step t is known for a shorter time than one that "
                + "it learned before; its own token is the one that it has known for the longest "
                + "time.)");
        // Node 1 learns 2 in step 0 and 0 in step 1, and tells 3 of 0.
        known(rounds(4, "12", "01", "13"), 1, 3, 5, 15, 6, 9);
        // Its own token 7 is older than token 0, which it learned.
        check.due("own is oldest", rounds(8, "07", "67").gossip(1, 6, 2), 65);
        // What is learned in the first step is newer than the own token already.
        check.due("step 0", rounds(3, "12", "01").gossip(1, 0, 2), 5);
    }

    private static void newestIsNotRenewed() {
        check.says("1 newest, the token that it has known for the shortest time");
        // In step 2 node 1 gets its own token back from 0; its newest one is 2 all the same.
        ChangingRounds x = rounds(4, "01", "12", "01", "13");
        check.due("token 2", x.gossip(1, 3, 4), 12);
    }

    private static void turnGoesRound() {
        check.says("2 turn, the token with the number (step modulo N) if it knows this, otherwise "
                + "its own one.");
        // Step 4 of 4 nodes has the turn of token 0, which 1 learned in step 0.
        ChangingRounds x = rounds(4, "01", "", "", "", "12");
        check.due("step 4", x.gossip(2, 2, 5), 5);
        check.due("step 4 back", x.gossip(2, 1, 5), 7);
        // Step 3 has the turn of the last token.
        check.due("step 3", rounds(4, "13", "", "", "12").gossip(2, 2, 4), 12);
        check.due("step 7 of 8", rounds(8, "67", "", "", "", "", "", "", "56").gossip(2, 5, 8), 160);
        check.due("step 8 of 8", rounds(8, "06", "", "", "", "", "", "", "", "56").gossip(2, 5, 9),
                33);
        check.due("step 2 of 2 nodes", rounds(2, "", "", "01").gossip(2, 1, 3), 3);
    }

    private static void turnOfAnUnknownToken() {
        check.says("otherwise its own one.");
        // Node 1 knows 0 and 1; in step 2 it is the turn of 2, and in step 3 of 3.
        check.due("turn of 2", rounds(4, "01", "", "13").gossip(2, 3, 3), 10);
        check.due("turn of 3", rounds(4, "01", "", "", "12").gossip(2, 2, 4), 6);
        check.due("step 0", rounds(4, "23").gossip(2, 3, 1), 12);
    }

    private static void choicesByTheBeginning() {
        check.says("All nodes choose by what they know at the beginning of the step.");
        for (int rule = 0; rule <= 2; rule++) {
            known(check.loaded("nodes 8;path;"), rule, 1, 3, 7, 14, 28, 56, 112, 224, 192);
        }
    }

    private static void sentWithoutNeighbours() {
        check.says("A token that is chosen counts as sent, also if the node has no neighbours in "
                + "this step.");
        // Node 1 chose 0 in the step without edges, so 3 gets 2.
        check.due("one step alone", rounds(4, "01 12", "", "13").gossip(0, 3, 3), 12);
        // In step 0 all choose their own tokens; 1 sends 1 again, and then what is new.
        known(rounds(3, "", "01", "12"), 0, 3, 3, 7, 5);
    }

    private static void gossipErrors() {
        check.says("Returns the set (bit i for the token of node i); INVALID_ARGUMENT if an "
                + "argument is out of range.");
        check.range("rule", 0, 2, rule -> check.loaded("path;").gossip(rule, 0, 1));
        check.range("node", 0, 3, node -> check.loaded("path;").gossip(2, node, 1));
        check.range("steps", 0, 99, steps -> check.loaded("path;").gossip(1, 0, steps));
        check.range("steps without rounds", 0, 99, n -> new ChangingRounds().gossip(2, 0, n));
        check.due("all wrong", check.loaded("path;").gossip(3, 4, 100), Check.INVALID);
    }

    private static void gossipLastStep() {
        check.says("steps: 0 to 99");
        // The star is there in the steps 10, 21, .. 98 with the turns 2 5 0 3 6 1 4 7 2: node 0
        // learns all in the first one and tells token 2 last.
        ChangingRounds star = check.loaded("nodes 8;none;repeat 9;star 0;");
        check.due("98 steps", star.gossip(2, 1, 98), 251);
        check.due("99 steps", star.gossip(2, 1, 99), 255);
    }

    private static void gossipTimeErrors() {
        check.says("Returns the number of steps; INVALID_ARGUMENT if rule is out of range; NONE if "
                + "it is more than 99.");
        check.range("rule", 0, 2, rule -> check.loaded("full;").gossipTime(rule));
        check.says("NONE is no error, and it is returned only if no error code applies.");
        check.range("rule without rounds", 0, 2, rule -> new ChangingRounds().gossipTime(rule));
        for (int rule = 0; rule <= 2; rule++) {
            check.due("never", check.loaded("none;").gossipTime(rule), Check.NONE);
        }
    }

    private static void gossipTimeOfTheLastNode() {
        check.says("Returns after how many steps of gossip all nodes know all tokens.");
        check.due("node 0 is last", check.loaded("nodes 3;path;").gossipTime(0), 3);
        check.due("node 2 is last", check.loaded("nodes 3;path;").gossipTime(2), 4);
        check.due("node 2 never", check.loaded("nodes 3;path;").gossipTime(1), Check.NONE);
    }

    private static void gossipTimeBound() {
        check.says("NONE if it is more than 99.");
        for (int rule = 0; rule <= 2; rule++) {
            check.due("1 step", check.loaded("nodes 2;01;").gossipTime(rule), 1);
            check.due("1 step of 8", check.loaded("nodes 8;full;").gossipTime(rule), 1);
            check.due("the last of 16", check.loaded("nodes 2;none;repeat 9;repeat 5;01;")
                    .gossipTime(rule), 16);
        }
        check.due("99 steps", check.loaded("nodes 8;none;repeat 9;star 0;").gossipTime(2), 99);
        // Here the last token comes in the step with the number 99, which is the hundredth.
        ChangingRounds late = check.loaded("nodes 7;none;repeat 1;01 23;path;");
        check.due("100 steps", late.gossipTime(2), Check.NONE);
        check.holds("not all after 99 steps", anyLacks(late, 7));
    }

    private static boolean anyLacks(ChangingRounds x, int nodes) {
        for (int node = 0; node < nodes; node++) {
            if (x.gossip(2, node, 99) != (1 << nodes) - 1) {
                return true;
            }
        }
        return false;
    }

    private static void counts(ChangingRounds x, int steps, int wrong, int... due) {
        for (int node = 0; node < due.length; node++) {
            check.due("counted(" + node + ")", x.counted(node), due[node]);
        }
        check.due("countingSteps()", x.countingSteps(), steps);
        check.due("wrongCounts()", x.wrongCounts(), wrong);
    }

    private static void guesses() {
        check.says("The nodes count themselves in phases with the guesses 1, 2, 4 and 8, one after "
                + "the other; the first one begins with step 0, each other one with the step behind "
                + "the last one of the phase before it. A phase with the guess g has 2 * g steps.");
        int[] stepsByNodes = {6, 14, 14, 30, 30, 30, 30};
        for (int nodes = 2; nodes <= 8; nodes++) {
            ChangingRounds x = check.loaded("nodes " + nodes + ";full;");
            check.due("steps of " + nodes, x.countingSteps(), stepsByNodes[nodes - 2]);
            check.due("wrong of " + nodes, x.wrongCounts(), 0);
            check.due("counted of " + nodes, x.counted(nodes - 1), nodes);
        }
        check.due("no rounds", new ChangingRounds().countingSteps(), 2);
    }

    private static void moreThanTheGuess() {
        check.says("Then each node that knows more than g tokens has an alarm.");
        // As many tokens as the guess are no alarm, one more is.
        counts(rounds(2, "01"), 6, 0, 2, 2);
        counts(rounds(3, "full"), 14, 0, 3, 3, 3);
        counts(rounds(4, "full"), 14, 0, 4, 4, 4, 4);
        counts(rounds(5, "full"), 30, 0, 5, 5, 5, 5, 5);
        counts(rounds(8, "full"), 30, 0, 8, 8, 8, 8, 8, 8, 8, 8);
        counts(rounds(5, "01 12 02 34"), 14, 5, 3, 3, 3, 2, 2);
    }

    private static void phasesInTurn() {
        check.says("In its first g steps there is a flooding that begins anew.");
        // One edge of two nodes, in one or two of 16 steps.
        int[] none = {};
        counts(edgeInSteps(none), 2, 2, 1, 1);
        counts(edgeInSteps(0), 6, 2, 1, 1);
        counts(edgeInSteps(1), 2, 2, 1, 1);
        counts(edgeInSteps(2), 2, 2, 1, 1);
        counts(edgeInSteps(0, 1), 6, 2, 1, 1);
        counts(edgeInSteps(0, 2), 6, 0, 2, 2);
        counts(edgeInSteps(0, 3), 6, 0, 2, 2);
        counts(edgeInSteps(0, 4), 6, 2, 1, 1);
        counts(edgeInSteps(0, 15), 6, 2, 1, 1);
        // The third phase floods in the steps 6 to 9.
        counts(fullInSteps(0, 2, 5), 14, 3, 1, 1, 1);
        counts(fullInSteps(0, 2, 6), 14, 0, 3, 3, 3);
        counts(fullInSteps(0, 2, 9), 14, 0, 3, 3, 3);
        counts(fullInSteps(0, 2, 10), 14, 3, 1, 1, 1);
        counts(fullInSteps(0, 3, 6), 14, 0, 3, 3, 3);
        counts(fullInSteps(0, 4, 6), 6, 3, 1, 1, 1);
    }

    private static ChangingRounds edgeInSteps(int... steps) {
        return inSteps(2, "01", steps);
    }

    private static ChangingRounds fullInSteps(int... steps) {
        return inSteps(3, "full", steps);
    }

    private static ChangingRounds inSteps(int nodes, String item, int... steps) {
        String[] items = new String[16];
        java.util.Arrays.fill(items, "");
        for (int step : steps) {
            items[step] = item;
        }
        return rounds(nodes, items);
    }

    private static void lastPhase() {
        check.says("each other one with the step behind the last one of the phase before it.");
        // Node 0 alone has an alarm in each of three phases; the last one floods in the
        // steps 14 to 21, that is, in the rounds 14 and 15 and again in 0 to 5.
        counts(ofNodeZero("", "", "05", ""), 30, 8, 4, 2, 1, 1, 1, 1, 1, 1);
        counts(ofNodeZero("", "05", "", ""), 30, 8, 3, 2, 1, 1, 1, 1, 1, 1);
        counts(ofNodeZero("", "", "", "05"), 30, 8, 4, 2, 1, 1, 1, 1, 1, 1);
        // Step 21 is the last one of the flooding, step 22 with four edges comes too late.
        counts(ofNodeZero("03", "", "", ""), 30, 8, 4, 2, 1, 1, 1, 1, 1, 1);
        counts(ofNodeZero("", "", "", ""), 30, 8, 3, 2, 1, 1, 1, 1, 1, 1);
    }

    private static ChangingRounds ofNodeZero(String in5, String in13, String in14, String in15) {
        return rounds(8, "01", "", "01 02", "", "", in5, "01 02 03 04", "", "", "", "", "", "",
                in13, in14, in15);
    }

    private static void alarmsOneEdgeAStep() {
        check.says("In the other g steps, each node that has an alarm at the beginning of a step "
                + "gives its neighbours in this step an alarm from the end of the step on.");
        // In the second phase node 0 alone knows 3 tokens; its alarm goes to 3 in step 4 and
        // from there to 5 in step 5. Who has no alarm decides then, the others in step 13.
        counts(withAlarms("03", "35"), 14, 6, 2, 2, 2, 2, 1, 2);
        // The other way round 3 has no alarm yet when it meets 5.
        counts(withAlarms("35", "03"), 14, 6, 2, 2, 2, 2, 1, 1);
        // In one step an alarm goes along one edge only.
        counts(withAlarms("03 35", ""), 14, 6, 2, 2, 2, 2, 1, 1);
        counts(withAlarms("", "03 35"), 14, 6, 2, 2, 2, 2, 1, 1);
        counts(withAlarms("", ""), 14, 6, 2, 2, 2, 1, 1, 1);
    }

    private static ChangingRounds withAlarms(String in4, String in5) {
        return rounds(6, "01 23 45", "", "01 02", "", in4, in5, "03 45", "", "", "");
    }

    private static void alarmsToTheLastStep() {
        check.says("At the end of the phase, each node that has no alarm and has not decided yet "
                + "decides for the number of tokens that it knows.");
        // Node 2 gets the alarm in the last step of the first phase, or one step too late.
        counts(rounds(3, "01", "12"), 14, 0, 3, 3, 3);
        counts(rounds(3, "01", "", "12"), 14, 1, 3, 3, 1);
        // In the second phase alarms are given in the steps 4 and 5, not in 3 or 6.
        counts(withAlarms("", "03"), 14, 6, 2, 2, 2, 2, 1, 1);
    }

    private static void decidedOnce() {
        check.says("has not decided yet");
        // Node 3 decides for 1 in the first phase and keeps to it, though it hears of all later.
        counts(rounds(4, "01", "path"), 14, 2, 3, 4, 4, 1);
    }

    private static void decidedTakePart() {
        check.says("Nodes that have decided take part in all as before.");
        // Node 2 decides in the first phase. In the second one it passes on its token to 0 and,
        // with an alarm of its own, the alarm to 3; in the third one its token to 3.
        counts(rounds(5, "01 34", "", "01", "02", "23", "", "23", "", "", ""), 14, 5, 1, 2, 1, 2, 1);
    }

    private static void countingEnds() {
        check.says("The counting ends with the first phase at whose end all nodes have decided.");
        check.due("first phase", rounds(8, "none").countingSteps(), 2);
        check.due("second phase", rounds(8, "01").countingSteps(), 6);
        check.due("second phase for the last", rounds(8, "67").countingSteps(), 6);
        check.due("third phase", rounds(8, "01 12 02").countingSteps(), 14);
        check.due("third phase for the last", rounds(8, "56 67 57").countingSteps(), 14);
        check.due("fourth phase", rounds(8, "01 12 23 34").countingSteps(), 30);
        check.due("fourth phase for the last", rounds(8, "37 47 57 67").countingSteps(), 30);
        check.says("Returns the number of steps of all its phases.");
        check.due("2 nodes", rounds(2, "01").countingSteps(), 6);
        check.due("2 nodes apart", rounds(2, "none").countingSteps(), 2);
    }

    private static void countedErrors() {
        check.says("Returns the number; INVALID_ARGUMENT if there is no such node.");
        check.range("counted of 2", 0, 1, node -> rounds(2, "01").counted(node));
        check.range("counted of 8", 0, 7, node -> rounds(8, "full").counted(node));
        check.range("without rounds", 0, 3, node -> new ChangingRounds().counted(node));
        check.due("least", new ChangingRounds().counted(3), 1);
        check.due("greatest", rounds(8, "full").counted(7), 8);
    }

    private static void wrongCounts() {
        check.says("Counts the nodes that decide for a wrong number in the counting, that is, not "
                + "for N.");
        check.due("none", rounds(8, "full").wrongCounts(), 0);
        check.due("all", rounds(8, "none").wrongCounts(), 8);
        check.due("all of 2", rounds(2, "none").wrongCounts(), 2);
        check.due("one", rounds(3, "01", "", "12").wrongCounts(), 1);
        check.due("two", rounds(4, "01", "path").wrongCounts(), 2);
    }
}
