/** Promises 20 to 23, 26 and 27: flooding, journeys, decisions by the smallest value. */
public final class FloodingTest {
    private static final int[] FAR = {Integer.MIN_VALUE, -1, 100, Integer.MAX_VALUE};
    /** All edges are in the last of 16 rounds, so that each hop takes a turn. */
    private static final String SLOW = "nodes 8;none;repeat 9;repeat 5;path;";
    private static final Check check = new Check();

    public static void main(String[] args) {
        heard();
        journey();
        diameter();
        center();
        slow();
        decision();
        agreement();
        withoutRounds();
        check.end();
    }

    private static void heard() {
        ChangingRounds x = check.loaded("nodes 4;01;12;23;");
        check.due("heard(3, 0, 0)", x.heard(3, 0, 0), 8);
        check.due("heard(3, 0, 2)", x.heard(3, 0, 2), 8);
        check.due("heard(3, 0, 3)", x.heard(3, 0, 3), 15);
        check.due("heard(0, 0, 3)", x.heard(0, 0, 3), 3);
        check.due("heard(0, 0, 4)", x.heard(0, 0, 4), 7);
        check.due("heard(0, 0, 7)", x.heard(0, 0, 7), 15);
        check.due("heard(1, 1, 1)", x.heard(1, 1, 1), 6);
        check.due("heard(2, 2, 1)", x.heard(2, 2, 1), 12);
        check.due("heard(0, 3, 1)", x.heard(0, 3, 1), 3);
        check.due("heard(2, 98, 2)", x.heard(2, 98, 2), 12);
        check.due("heard(0, 99, 99)", x.heard(0, 99, 99), 15);
        check.due("heard(0, 99, 1)", x.heard(0, 99, 1), 3);
        check.due("node 4", x.heard(4, 0, 0), Check.INVALID);
        for (int far : FAR) {
            check.due("far node", x.heard(far, 0, 0), Check.INVALID);
            check.due("far from", x.heard(0, far, 0), Check.INVALID);
            check.due("far steps", x.heard(0, 0, far), Check.INVALID);
        }
        // What a node receives it knows only from the end of the step on.
        ChangingRounds path = check.loaded("nodes 8;path;");
        check.due("one step of a path", path.heard(0, 0, 1), 3);
        check.due("one step of a path back", path.heard(7, 0, 1), 192);
        check.due("six steps of a path", path.heard(0, 0, 6), 127);
        check.due("seven steps of a path", path.heard(7, 0, 7), 255);
    }

    private static void journey() {
        ChangingRounds x = check.loaded("nodes 4;01;12;");
        check.due("journey(0, 0, 0)", x.journey(0, 0, 0), 0);
        check.due("journey(0, 1, 0)", x.journey(0, 1, 0), 1);
        check.due("journey(0, 2, 0)", x.journey(0, 2, 0), 2);
        check.due("journey(2, 0, 0)", x.journey(2, 0, 0), 3);
        check.due("journey(0, 2, 1)", x.journey(0, 2, 1), 3);
        check.due("journey(2, 0, 1)", x.journey(2, 0, 1), 2);
        check.due("journey(2, 0, 99)", x.journey(2, 0, 99), 2);
        check.due("journey(0, 3, 0)", x.journey(0, 3, 0), Check.NONE);
        check.due("journey(3, 0, 0)", x.journey(3, 0, 0), Check.NONE);
        check.due("journey(3, 3, 50)", x.journey(3, 3, 50), 0);
        check.due("journey(4, 0, 0)", x.journey(4, 0, 0), Check.INVALID);
        check.due("journey(0, 4, 0)", x.journey(0, 4, 0), Check.INVALID);
        check.due("journey(0, 3, 100)", x.journey(0, 3, 100), Check.INVALID);
        for (int far : FAR) {
            check.due("far a", x.journey(far, 0, 0), Check.INVALID);
            check.due("far b", x.journey(0, far, 0), Check.INVALID);
            check.due("far from", x.journey(0, 0, far), Check.INVALID);
        }
    }

    private static void diameter() {
        ChangingRounds x = check.loaded("nodes 3;01;12;");
        check.due("diameter(0)", x.diameter(0), 3);
        check.due("diameter(1)", x.diameter(1), 3);
        ChangingRounds uneven = check.loaded("nodes 3;01;12;none;");
        check.due("uneven diameter(0)", uneven.diameter(0), 4);
        check.due("uneven diameter(1)", uneven.diameter(1), 4);
        check.due("uneven diameter(2)", uneven.diameter(2), 5);
        check.due("uneven diameter(98)", uneven.diameter(98), 5);
        check.due("uneven diameter(99)", uneven.diameter(99), 4);
        check.due("full", check.loaded("nodes 8;full;").diameter(0), 1);
        check.due("apart", check.loaded("nodes 4;01 23;").diameter(0), Check.NONE);
        for (int far : FAR) {
            check.due("far from", x.diameter(far), Check.INVALID);
        }
    }

    private static void center() {
        check.due("path of 5", check.loaded("nodes 5;path;").center(), 2);
        check.due("path of 4", check.loaded("nodes 4;path;").center(), 1);
        check.due("star 3", check.loaded("star 3;").center(), 3);
        check.due("star 7", check.loaded("nodes 8;star 7;").center(), 7);
        check.due("full", check.loaded("full;").center(), 0);
        check.due("apart", check.loaded("01 23;").center(), Check.NONE);
        // All hear of 0 after 3 steps, of 3 only when the schedule has begun anew.
        check.due("forward", check.loaded("01;12;23;").center(), 0);
        check.due("backward", check.loaded("nodes 4;23;12;01;").center(), 2);
    }

    private static void slow() {
        ChangingRounds x = check.loaded(SLOW);
        check.due("rounds", x.count(1), 16);
        check.due("journey(0, 7, 0)", x.journey(0, 7, 0), 112);
        check.due("journey(7, 0, 0)", x.journey(7, 0, 0), 112);
        check.due("journey(0, 6, 0)", x.journey(0, 6, 0), 96);
        check.due("journey(0, 7, 15)", x.journey(0, 7, 15), 97);
        check.due("journey(0, 7, 99)", x.journey(0, 7, 99), 109);
        check.due("diameter(0)", x.diameter(0), 112);
        check.due("diameter(16)", x.diameter(16), 112);
        check.due("center", x.center(), 3);
        check.due("heard(7, 0, 99)", x.heard(7, 0, 99), 254);
        check.due("agreement", x.agreement(), 112);
        check.due("decision(7, 99)", x.decision(7, 99), 1);
        x.setValue(3, 0);
        check.due("agreement with two smallest values", x.agreement(), 64);
    }

    private static void decision() {
        ChangingRounds x = check.loaded("nodes 3;01;12;");
        x.setValue(0, 40);
        x.setValue(1, 99);
        x.setValue(2, 20);
        check.due("decision(1, 0)", x.decision(1, 0), 99);
        check.due("decision(1, 1)", x.decision(1, 1), 40);
        check.due("decision(1, 2)", x.decision(1, 2), 20);
        check.due("decision(0, 2)", x.decision(0, 2), 40);
        check.due("decision(0, 3)", x.decision(0, 3), 20);
        check.due("decision(2, 99)", x.decision(2, 99), 20);
        check.due("node 3", x.decision(3, 0), Check.INVALID);
        for (int far : FAR) {
            check.due("far node", x.decision(far, 0), Check.INVALID);
            check.due("far steps", x.decision(0, far), Check.INVALID);
        }
    }

    private static void agreement() {
        ChangingRounds x = check.loaded("nodes 3;01;12;");
        check.due("smallest at 0", x.agreement(), 2);
        x.setValue(0, 2);
        x.setValue(1, 1);
        check.due("smallest at 1", x.agreement(), 2);
        x.setValue(2, 0);
        check.due("smallest at 2", x.agreement(), 3);
        x.setValue(0, 0);
        check.due("smallest at 0 and 2", x.agreement(), 1);
        x.setValue(1, 0);
        check.due("all the same", x.agreement(), 0);
        ChangingRounds apart = check.loaded("01 23;");
        check.due("apart", apart.agreement(), Check.NONE);
        apart.setValue(2, 0);
        check.due("apart with a smallest value each", apart.agreement(), 1);
    }

    private static void withoutRounds() {
        ChangingRounds x = new ChangingRounds();
        check.due("heard", x.heard(2, 5, 99), 4);
        check.due("journey", x.journey(0, 1, 0), Check.NONE);
        check.due("journey to itself", x.journey(1, 1, 0), 0);
        check.due("diameter", x.diameter(0), Check.NONE);
        check.due("center", x.center(), Check.NONE);
        check.due("decision", x.decision(3, 99), 3);
        check.due("agreement", x.agreement(), Check.NONE);
        for (int node = 0; node < 4; node++) {
            x.setValue(node, 5);
        }
        check.due("agreement of equals", x.agreement(), 0);
    }
}
