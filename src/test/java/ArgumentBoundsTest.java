/**
 * The range of each argument, promise by promise: the least and the greatest
 * allowed one with their answers, and those outside.
 */
public final class ArgumentBoundsTest {
    /** The most that fits: a path of 8 nodes, 16 rounds with 7 edges each. */
    private static final String MOST = "nodes 8;path;repeat 9;repeat 6;";
    private static final String FOUR = "path;ring;none;full;";
    private static final Check check = new Check();

    public static void main(String[] args) {
        setNodes();
        setEdge();
        removeRound();
        swapRounds();
        addAdversary();
        setValue();
        edge();
        count();
        value();
        appendCharacter();
        round();
        staying();
        isStable();
        window();
        heard();
        journey();
        diameter();
        gossip();
        gossipTime();
        decision();
        counted();
        check.end();
    }

    private static ChangingRounds most() {
        return check.loaded(MOST);
    }

    private static ChangingRounds four() {
        return check.loaded(FOUR);
    }

    private static void setNodes() {
        check.says("- nodes: 2 to 8");
        check.ends("nodes", 2, 4, 8, 4, nodes -> new ChangingRounds().setNodes(nodes));
        check.ends("nodes with rounds", 2, 8, 8, 8, nodes -> most().setNodes(nodes));
    }

    private static void setEdge() {
        check.says("Gives a round an edge, or takes it away. - round: number of a round "
                + "- a: number of a node - b: number of another node - on: 1 or 0");
        check.ends("round", 0, 8, 15, 8, round -> most().setEdge(round, 0, 7, 1));
        check.ends("round of 4", 0, 4, 3, Check.STATE, round -> four().setEdge(round, 0, 3, 1));
        check.ends("a", 0, 8, 7, 8, a -> most().setEdge(15, a, 3, 1));
        check.ends("b", 0, 8, 7, 8, b -> most().setEdge(15, 3, b, 1));
        check.ends("a of 4", 0, 2, 3, Check.STATE, a -> four().setEdge(0, a, 1, 0));
        check.ends("b of 4", 0, 2, 3, Check.STATE, b -> four().setEdge(0, 1, b, 0));
        check.ends("on, where the edge is", 0, 6, 1, Check.STATE, on -> most().setEdge(0, 0, 1, on));
        check.ends("on, where none is", 0, Check.STATE, 1, 8, on -> most().setEdge(0, 0, 2, on));
    }

    private static void removeRound() {
        check.says("Removes a round. The rounds with greater numbers get numbers that are 1 less. "
                + "- round: number of a round");
        check.ends("round", 0, 15, 15, 15, round -> most().removeRound(round));
        check.ends("round of 4", 0, 3, 3, 3, round -> four().removeRound(round));
        check.ends("round of 1", 0, 0, 0, 0, round -> check.loaded("none;").removeRound(round));
    }

    private static void swapRounds() {
        check.says("Exchanges two rounds. - first: number of a round "
                + "- second: number of a round, possibly the same");
        check.ends("first", 0, 0, 15, 0, first -> most().swapRounds(first, 0));
        check.ends("second", 0, 0, 15, 0, second -> most().swapRounds(15, second));
        check.ends("first of 4", 0, 1, 3, 2, first -> four().swapRounds(first, 1));
        check.ends("second of 4", 0, 3, 3, 6, second -> four().swapRounds(2, second));
    }

    private static void addAdversary() {
        check.says("Adds a round by an adversary. - kind: 0 to 2 - s: number of a node");
        check.ends("kind", 0, 3, 2, 4, kind -> new ChangingRounds().addAdversary(kind, 3));
        check.ends("s", 0, 3, 3, 3, s -> new ChangingRounds().addAdversary(1, s));
        check.ends("s of 8", 0, 22, 7, 22, s -> check.loaded("nodes 8;none;").addAdversary(2, s));
        check.ends("s of 2", 0, 1, 1, 1, s -> check.loaded("nodes 2;").addAdversary(0, s));
        check.ends("kind without room", 0, Check.CAPACITY, 2, Check.CAPACITY,
                kind -> most().addAdversary(kind, 7));
        check.ends("s without room", 0, Check.CAPACITY, 7, Check.CAPACITY,
                s -> most().addAdversary(2, s));
    }

    private static void setValue() {
        check.says("Sets the value of a node. - node: number of a node - value: 0 to 99");
        check.ends("node", 0, 0, 7, 7, node -> most().setValue(node, 50));
        check.ends("node of 4", 0, 0, 3, 3, node -> new ChangingRounds().setValue(node, 99));
        check.ends("value", 0, 7, 99, 7, value -> most().setValue(7, value));
    }

    private static void edge() {
        check.says("Tells whether a round has an edge. - round: number of a round "
                + "- a: number of a node - b: number of another node");
        check.ends("round", 0, 1, 15, 1, round -> most().edge(round, 6, 7));
        check.ends("round of 4", 0, 0, 3, 1, round -> four().edge(round, 0, 3));
        check.ends("a", 0, 1, 7, 0, a -> most().edge(15, a, 1));
        check.ends("b", 0, 0, 7, 1, b -> most().edge(15, 6, b));
        check.ends("a of 4", 0, 0, 3, 1, a -> four().edge(0, a, 2));
    }

    private static void count() {
        check.says("what: 0 the number of nodes, 1 of rounds, 2 of edges of all rounds, 3 of rounds "
                + "whose edges are connected, 4 the length of the text, 5 the number of states that "
                + "are saved for undo()");
        check.ends("what", 0, 8, 5, 1, what -> most().count(what));
        check.ends("what of a new one", 0, 4, 5, 0, what -> new ChangingRounds().count(what));
        ChangingRounds x = four();
        Check.write(x, "text");
        int[] due = {4, 4, 13, 3, 4, 1};
        for (int what = 0; what < due.length; what++) {
            check.due("count(" + what + ")", x.count(what), due[what]);
        }
    }

    private static void value() {
        check.says("Returns the value of a node. - node: number of a node");
        check.ends("node", 0, 0, 7, 7, node -> most().value(node));
        check.ends("node of 4", 0, 0, 3, 3, node -> new ChangingRounds().value(node));
        check.ends("node of 2", 0, 0, 1, 1, node -> check.loaded("nodes 2;").value(node));
    }

    private static void appendCharacter() {
        check.says("Appends a character to the text. - character: character code, 0 to 255");
        check.ends("character", 0, 1, 255, 1, code -> new ChangingRounds().appendCharacter(code));
        check.ends("character without room", 0, Check.CAPACITY, 255, Check.CAPACITY, code -> {
            ChangingRounds x = new ChangingRounds();
            Check.write(x, " ".repeat(120));
            return x.appendCharacter(code);
        });
    }

    private static void round() {
        check.says("Returns a property of a round. - round: number of a round - what: 0 the number "
                + "of its edges");
        check.ends("round", 0, 7, 15, 7, round -> most().round(round, 0));
        check.ends("round of 4", 0, 3, 3, 6, round -> four().round(round, 0));
        check.ends("what", 0, 7, 3, 2, what -> most().round(15, what));
        check.ends("what of no edges", 0, 0, 3, 0, what -> four().round(2, what));
    }

    private static void staying() {
        check.says("Counts the edges that stay in successive rounds. - from: number of the first "
                + "round - length: how many rounds, 1 or more; all of them must be in the schedule");
        check.ends("from", 0, 7, 15, 7, from -> most().staying(from, 1));
        check.ends("from, two rounds", 0, 7, 14, 7, from -> most().staying(from, 2));
        check.ends("from, all rounds", 0, 7, 0, 7, from -> most().staying(from, 16));
        check.ends("length", 1, 3, 4, 0, length -> four().staying(0, length));
        check.ends("length from 1", 1, 4, 3, 0, length -> four().staying(1, length));
        check.ends("length from 3", 1, 6, 1, 6, length -> four().staying(3, length));
    }

    private static void isStable() {
        check.says("Tells whether the schedule is T-stable. - t: 1 to the number of rounds");
        check.ends("t", 1, 1, 16, 1, t -> most().isStable(t));
        check.ends("t of 4", 1, 0, 4, 0, t -> four().isStable(t));
        check.ends("t of 1", 1, 1, 1, 1, t -> check.loaded("path;").isStable(t));
        check.emptyRange("t of 0", t -> check.loaded("nodes 8;").isStable(t));
    }

    private static void window() {
        check.says("in which the edges that stay are connected. - round: number of a round");
        check.ends("round", 0, 16, 15, 1, round -> most().window(round));
        check.ends("round of 4", 0, 2, 3, 1, round -> four().window(round));
    }

    private static void heard() {
        check.says("Returns the set of nodes whose tokens a node knows. - node: number of a node "
                + "- from: 0 to 99, the step with which the flooding begins - steps: 0 to 99");
        check.ends("node", 0, 3, 7, 192, node -> most().heard(node, 0, 1));
        check.ends("node of 4", 0, 3, 3, 12, node -> four().heard(node, 0, 1));
        // Step 99 uses round 3 of 4.
        check.ends("from", 0, 3, 99, 15, from -> four().heard(0, from, 1));
        check.ends("steps", 0, 1, 99, 255, steps -> most().heard(0, 0, steps));
    }

    private static void journey() {
        check.says("- a: number of a node, of which is heard - b: number of the node that hears "
                + "- from: 0 to 99, the step with which the flooding begins");
        check.ends("a", 0, 2, 7, 5, a -> most().journey(a, 2, 0));
        check.ends("b", 0, 2, 7, 5, b -> most().journey(2, b, 0));
        check.ends("a of 4", 0, 0, 3, 2, a -> four().journey(a, 0, 0));
        check.ends("b of 4", 0, 2, 3, 0, b -> four().journey(3, b, 0));
        check.ends("from", 0, 2, 99, 1, from -> four().journey(0, 3, from));
    }

    private static void diameter() {
        check.says("Returns the greatest journey of all pairs of nodes. - from: 0 to 99, the step "
                + "with which the flooding begins");
        check.ends("from", 0, 2, 99, 1, from -> four().diameter(from));
        check.ends("from of 8", 0, 7, 99, 7, from -> most().diameter(from));
    }

    private static void gossip() {
        check.says("Returns the set of tokens that a node knows by gossip. - rule: 0 to 2 "
                + "- node: number of a node - steps: 0 to 99");
        check.ends("rule", 0, 7, 2, 6, rule -> check.loaded("nodes 3;path;").gossip(rule, 2, 2));
        check.ends("node", 0, 3, 7, 192, node -> most().gossip(2, node, 1));
        check.ends("node of 4", 0, 3, 3, 12, node -> four().gossip(1, node, 1));
        check.ends("steps", 0, 4, 99, 7, n -> check.loaded("nodes 3;path;").gossip(0, 2, n));
    }

    private static void gossipTime() {
        check.says("Returns after how many steps of gossip all nodes know all tokens. "
                + "- rule: 0 to 2");
        check.ends("rule", 0, 3, 2, 4, rule -> check.loaded("nodes 3;path;").gossipTime(rule));
    }

    private static void decision() {
        check.says("Returns the value for which a node decides. - node: number of a node "
                + "- steps: 0 to 99");
        check.ends("node", 0, 0, 7, 6, node -> most().decision(node, 1));
        check.ends("node of 4", 0, 0, 3, 2, node -> four().decision(node, 1));
        check.ends("steps", 0, 7, 99, 0, steps -> most().decision(7, steps));
    }

    private static void counted() {
        check.says("Returns the number for which a node decides in the counting. "
                + "- node: number of a node");
        check.ends("node", 0, 8, 7, 8, node -> most().counted(node));
        check.ends("node of 2", 0, 1, 1, 1, node -> check.loaded("nodes 2;").counted(node));
        check.ends("node of 5", 0, 3, 4, 2, n -> check.loaded("nodes 5;01 12 34;").counted(n));
    }
}
