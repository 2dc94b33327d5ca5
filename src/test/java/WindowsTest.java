/** Promises 15 to 19: properties of rounds, edges that stay, stable windows. */
public final class WindowsTest {
    private static final int[] FAR = {Integer.MIN_VALUE, -1, 16, Integer.MAX_VALUE};
    private static final Check check = new Check();

    public static void main(String[] args) {
        round();
        staying();
        stable();
        stableOnlyInside();
        window();
        check.end();
    }

    private static void properties(ChangingRounds x, int round, int... due) {
        for (int what = 0; what < due.length; what++) {
            check.due("round(" + round + ", " + what + ")", x.round(round, what), due[what]);
        }
    }

    private static void round() {
        ChangingRounds x = check.loaded(
                "nodes 8;none;full;path;ring;star 3;01 23 45 67;01 12 02 34 45 56 67;07;");
        properties(x, 0, 0, 0, 8, 0);
        properties(x, 1, 28, 1, 1, 7);
        properties(x, 2, 7, 1, 1, 2);
        properties(x, 3, 8, 1, 1, 2);
        properties(x, 4, 7, 1, 1, 7);
        properties(x, 5, 4, 0, 4, 1);
        properties(x, 6, 7, 0, 2, 2);
        properties(x, 7, 1, 0, 7, 1);
        check.due("what 4", x.round(0, 4), Check.INVALID);
        check.due("round 8", x.round(8, 0), Check.INVALID);
        for (int far : FAR) {
            check.due("far what", x.round(0, far), Check.INVALID);
            check.due("far round", x.round(far, 0), Check.INVALID);
        }
        // A way that goes down and up through the numbers of the nodes.
        ChangingRounds winding = check.loaded("nodes 8;07 71 16 62 25 53 34;");
        properties(winding, 0, 7, 1, 1, 2);
        ChangingRounds stars = check.loaded("nodes 8;star 0;star 7;");
        properties(stars, 0, 7, 1, 1, 7);
        properties(stars, 1, 7, 1, 1, 7);
        ChangingRounds two = check.loaded("nodes 2;none;path;");
        properties(two, 0, 0, 0, 2, 0);
        properties(two, 1, 1, 1, 1, 1);
    }

    private static void staying() {
        ChangingRounds x = check.loaded("full;ring;path;01;23;");
        check.due("staying(0, 1)", x.staying(0, 1), 6);
        check.due("staying(0, 2)", x.staying(0, 2), 4);
        check.due("staying(0, 3)", x.staying(0, 3), 3);
        check.due("staying(0, 4)", x.staying(0, 4), 1);
        check.due("staying(0, 5)", x.staying(0, 5), 0);
        check.due("staying(1, 2)", x.staying(1, 2), 3);
        check.due("staying(4, 1)", x.staying(4, 1), 1);
        check.due("staying(4, 2)", x.staying(4, 2), Check.INVALID);
        check.due("staying(0, 6)", x.staying(0, 6), Check.INVALID);
        check.due("staying(0, 0)", x.staying(0, 0), Check.INVALID);
        check.due("staying(5, 1)", x.staying(5, 1), Check.INVALID);
        for (int far : FAR) {
            check.due("far from", x.staying(far, 1), Check.INVALID);
            check.due("far length", x.staying(1, far), Check.INVALID);
        }
        check.due("without rounds", new ChangingRounds().staying(0, 1), Check.INVALID);
    }

    private static void stable() {
        ChangingRounds x = check.loaded("path;ring;full;star 0;");
        check.due("isStable(1)", x.isStable(1), 1);
        check.due("isStable(2)", x.isStable(2), 1);
        check.due("isStable(3)", x.isStable(3), 0);
        check.due("isStable(4)", x.isStable(4), 0);
        check.due("isStable(0)", x.isStable(0), Check.INVALID);
        check.due("isStable(5)", x.isStable(5), Check.INVALID);
        for (int far : FAR) {
            check.due("far isStable", x.isStable(far), Check.INVALID);
        }
        check.due("greatestStable", x.greatestStable(), 2);
        x.removeRound(3);
        check.due("isStable(3) then", x.isStable(3), 1);
        check.due("greatestStable then", x.greatestStable(), 3);
        x.addRound();
        check.due("isStable(1) with an empty round", x.isStable(1), 0);
        check.due("greatestStable with an empty round", x.greatestStable(), 0);
        check.due("greatestStable is 1", check.loaded("path;star 0;").greatestStable(), 1);
        ChangingRounds empty = new ChangingRounds();
        check.due("isStable(1) without rounds", empty.isStable(1), Check.INVALID);
        check.due("isStable(0) without rounds", empty.isStable(0), Check.INVALID);
        check.due("greatestStable without rounds", empty.greatestStable(), 0);
        ChangingRounds full = check.loaded("nodes 8;star 7;repeat 9;repeat 6;");
        check.due("isStable(16)", full.isStable(16), 1);
        check.due("isStable(17)", full.isStable(17), Check.INVALID);
        check.due("greatestStable of 16", full.greatestStable(), 16);
    }

    private static void stableOnlyInside() {
        // Path and star 0 share no connected edges, but only the turn from the last
        // round to the first one brings them together, and that is no window.
        ChangingRounds x = check.loaded("path;full;star 0;");
        check.due("isStable(2)", x.isStable(2), 1);
        check.due("greatestStable", x.greatestStable(), 2);
        check.due("isStable(3)", x.isStable(3), 0);
    }

    private static void window() {
        ChangingRounds x = check.loaded("path;ring;full;star 0;none;full;");
        // From round 1 on ring, full and star share 01 and 03 only.
        int[] due = {3, 2, 2, 1, 0, 1};
        for (int round = 0; round < due.length; round++) {
            check.due("window(" + round + ")", x.window(round), due[round]);
        }
        check.due("window(6)", x.window(6), Check.INVALID);
        for (int far : FAR) {
            check.due("far window", x.window(far), Check.INVALID);
        }
        check.due("without rounds", new ChangingRounds().window(0), Check.INVALID);
        ChangingRounds same = check.loaded("path;repeat 9;repeat 6;");
        check.due("window(0) of 16", same.window(0), 16);
        check.due("window(15) of 16", same.window(15), 1);
    }
}
