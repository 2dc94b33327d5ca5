/**
 * A workbench for agreement in networks whose edges change from round to round.
 *
 * Every row that a call needs is made in the constructor and used again, so that
 * no call makes an object.
 */
public final class ChangingRounds {
    public static final int INVALID_ARGUMENT = -1;
    public static final int ILLEGAL_STATE = -2;
    public static final int CAPACITY_EXCEEDED = -3;
    public static final int NONE = -9;

    private static final int FEWEST_NODES = 2;
    private static final int MOST_NODES = 8;
    private static final int NODES_AT_FIRST = 4;
    private static final int MOST_ROUNDS = 16;
    private static final int MOST_VALUE = 99;
    private static final int LAST_STEP = 99;
    private static final int MOST_CHARACTERS = 120;
    private static final int GREATEST_CHARACTER = 255;
    private static final int MOST_SAVED = 6;
    private static final int GREATEST_GUESS = 8;
    private static final int NO_ANSWER_YET = 0;
    private static final int NO_NODE = -1;
    private static final int NO_ERROR = -1;
    private static final int ERROR_BASE = -10;

    private static final int PATH_ADVERSARY = 0;
    private static final int STAR_ADVERSARY = 1;
    private static final int CLIQUES_ADVERSARY = 2;

    private static final int LEAST_RULE = 0;
    private static final int NEWEST_RULE = 1;
    private static final int TURN_RULE = 2;

    private final Schedule schedule;
    private final Schedule draft;
    private final History history;
    private final ScheduleText text;
    private final Flooding flooding;
    private final Gossip gossiping;
    private final Counting counting;

    public ChangingRounds() {
        schedule = new Schedule();
        draft = new Schedule();
        history = new History();
        text = new ScheduleText();
        flooding = new Flooding(schedule);
        gossiping = new Gossip(schedule);
        counting = new Counting(schedule, flooding);
    }

    // ---- schedule

    public int setNodes(int nodes) {
        if (nodes < FEWEST_NODES || nodes > MOST_NODES) {
            return INVALID_ARGUMENT;
        }
        int previous = schedule.nodes();
        history.save(schedule);
        schedule.beginAnew(nodes);
        return previous;
    }

    public int addRound() {
        if (schedule.isFull()) {
            return CAPACITY_EXCEEDED;
        }
        history.save(schedule);
        schedule.append(0);
        return schedule.rounds() - 1;
    }

    public int setEdge(int round, int a, int b, int on) {
        if (!schedule.hasPlace(round, a, b) || on < 0 || on > 1) {
            return INVALID_ARGUMENT;
        }
        int before = schedule.edgesOf(round);
        int after = on == 1 ? before | Edges.between(a, b) : before & ~Edges.between(a, b);
        if (after == before) {
            return ILLEGAL_STATE;
        }
        history.save(schedule);
        schedule.replace(round, after);
        return Integer.bitCount(after);
    }

    public int removeRound(int round) {
        if (!schedule.hasRound(round)) {
            return INVALID_ARGUMENT;
        }
        history.save(schedule);
        schedule.removeAt(round);
        return schedule.rounds();
    }

    public int swapRounds(int first, int second) {
        if (!schedule.hasRound(first) || !schedule.hasRound(second)) {
            return INVALID_ARGUMENT;
        }
        history.save(schedule);
        int edgesOfFirst = schedule.edgesOf(first);
        int edgesOfSecond = schedule.edgesOf(second);
        schedule.replace(first, edgesOfSecond);
        schedule.replace(second, edgesOfFirst);
        return Integer.bitCount(edgesOfFirst ^ edgesOfSecond);
    }

    public int addAdversary(int kind, int s) {
        if (kind < PATH_ADVERSARY || kind > CLIQUES_ADVERSARY || !schedule.hasNode(s)) {
            return INVALID_ARGUMENT;
        }
        if (schedule.isFull()) {
            return CAPACITY_EXCEEDED;
        }
        flooding.begin(0);
        flooding.advanceBy(schedule.rounds());
        int added = Adversary.edges(kind, s, flooding.knowersOf(s), schedule.nodes());
        history.save(schedule);
        schedule.append(added);
        return Integer.bitCount(added);
    }

    public int setValue(int node, int value) {
        if (!schedule.hasNode(node) || value < 0 || value > MOST_VALUE) {
            return INVALID_ARGUMENT;
        }
        int previous = schedule.valueOf(node);
        history.save(schedule);
        schedule.give(node, value);
        return previous;
    }

    public int edge(int round, int a, int b) {
        if (!schedule.hasPlace(round, a, b)) {
            return INVALID_ARGUMENT;
        }
        return oneIf(Edges.connects(schedule.edgesOf(round), a, b));
    }

    public int count(int what) {
        switch (what) {
            case 0:
                return schedule.nodes();
            case 1:
                return schedule.rounds();
            case 2:
                return schedule.edgesInAll();
            case 3:
                return schedule.connectedRounds();
            case 4:
                return text.length();
            case 5:
                return history.size();
            default:
                return INVALID_ARGUMENT;
        }
    }

    public int value(int node) {
        if (!schedule.hasNode(node)) {
            return INVALID_ARGUMENT;
        }
        return schedule.valueOf(node);
    }

    // ---- text

    public int appendCharacter(int character) {
        if (character < 0 || character > GREATEST_CHARACTER) {
            return INVALID_ARGUMENT;
        }
        if (text.isFull()) {
            return CAPACITY_EXCEEDED;
        }
        text.append(character);
        return text.length();
    }

    public int clearText() {
        int previous = text.length();
        text.clear();
        return previous;
    }

    public int load() {
        int error = text.readInto(draft);
        if (error != NO_ERROR) {
            return ERROR_BASE - error;
        }
        history.save(schedule);
        schedule.become(draft);
        text.clear();
        return schedule.rounds();
    }

    // ---- windows

    public int round(int round, int what) {
        if (!schedule.hasRound(round)) {
            return INVALID_ARGUMENT;
        }
        int edges = schedule.edgesOf(round);
        switch (what) {
            case 0:
                return Integer.bitCount(edges);
            case 1:
                return oneIf(Edges.areConnected(edges, schedule.nodes()));
            case 2:
                return Edges.components(edges, schedule.nodes());
            case 3:
                return Edges.greatestDegree(edges, schedule.nodes());
            default:
                return INVALID_ARGUMENT;
        }
    }

    public int staying(int from, int length) {
        if (!schedule.hasRound(from) || length < 1 || length > schedule.rounds() - from) {
            return INVALID_ARGUMENT;
        }
        return Integer.bitCount(schedule.edgesThatStay(from, length));
    }

    public int isStable(int t) {
        if (t < 1 || t > schedule.rounds()) {
            return INVALID_ARGUMENT;
        }
        return oneIf(schedule.staysConnected(t));
    }

    public int greatestStable() {
        for (int t = schedule.rounds(); t >= 1; t--) {
            if (schedule.staysConnected(t)) {
                return t;
            }
        }
        return 0;
    }

    public int window(int round) {
        if (!schedule.hasRound(round)) {
            return INVALID_ARGUMENT;
        }
        return schedule.longestWindow(round);
    }

    // ---- flooding

    public int heard(int node, int from, int steps) {
        if (!schedule.hasNode(node) || !isStep(from) || !isStep(steps)) {
            return INVALID_ARGUMENT;
        }
        flooding.begin(from);
        flooding.advanceBy(steps);
        return flooding.tokensOf(node);
    }

    public int journey(int a, int b, int from) {
        if (!schedule.hasNode(a) || !schedule.hasNode(b) || !isStep(from)) {
            return INVALID_ARGUMENT;
        }
        flooding.begin(from);
        for (int steps = 0; steps <= schedule.longestFlooding(); steps++) {
            if (NodeSet.has(flooding.tokensOf(b), a)) {
                return steps;
            }
            flooding.advance();
        }
        return NONE;
    }

    public int diameter(int from) {
        if (!isStep(from)) {
            return INVALID_ARGUMENT;
        }
        flooding.begin(from);
        for (int steps = 0; steps <= schedule.longestFlooding(); steps++) {
            if (flooding.tokensOfAll() == NodeSet.firstOnes(schedule.nodes())) {
                return steps;
            }
            flooding.advance();
        }
        return NONE;
    }

    public int center() {
        flooding.begin(0);
        for (int steps = 0; steps <= schedule.longestFlooding(); steps++) {
            int knownToAll = flooding.tokensOfAll();
            if (knownToAll != 0) {
                return NodeSet.smallest(knownToAll);
            }
            flooding.advance();
        }
        return NONE;
    }

    // ---- gossip, decisions, counting

    public int gossip(int rule, int node, int steps) {
        if (!isRule(rule) || !schedule.hasNode(node) || !isStep(steps)) {
            return INVALID_ARGUMENT;
        }
        gossiping.begin(rule);
        for (int step = 0; step < steps; step++) {
            gossiping.advance();
        }
        return gossiping.tokensOf(node);
    }

    public int gossipTime(int rule) {
        if (!isRule(rule)) {
            return INVALID_ARGUMENT;
        }
        gossiping.begin(rule);
        for (int steps = 0; steps <= LAST_STEP; steps++) {
            if (gossiping.allKnowAll()) {
                return steps;
            }
            gossiping.advance();
        }
        return NONE;
    }

    public int decision(int node, int steps) {
        if (!schedule.hasNode(node) || !isStep(steps)) {
            return INVALID_ARGUMENT;
        }
        flooding.begin(0);
        flooding.advanceBy(steps);
        return schedule.smallestValue(flooding.tokensOf(node));
    }

    public int agreement() {
        flooding.begin(0);
        for (int steps = 0; steps <= schedule.longestFlooding(); steps++) {
            if (allDecideTheSame()) {
                return steps;
            }
            flooding.advance();
        }
        return NONE;
    }

    public int counted(int node) {
        if (!schedule.hasNode(node)) {
            return INVALID_ARGUMENT;
        }
        counting.run();
        return counting.answerOf(node);
    }

    public int countingSteps() {
        counting.run();
        return counting.steps();
    }

    public int wrongCounts() {
        counting.run();
        return counting.wrongAnswers();
    }

    public int undo() {
        if (history.size() == 0) {
            return ILLEGAL_STATE;
        }
        history.restore(schedule);
        return history.size();
    }

    private boolean allDecideTheSame() {
        int decided = schedule.smallestValue(flooding.tokensOf(0));
        for (int node = 1; node < schedule.nodes(); node++) {
            if (schedule.smallestValue(flooding.tokensOf(node)) != decided) {
                return false;
            }
        }
        return true;
    }

    private static boolean isStep(int number) {
        return number >= 0 && number <= LAST_STEP;
    }

    private static boolean isRule(int number) {
        return number >= LEAST_RULE && number <= TURN_RULE;
    }

    private static int oneIf(boolean condition) {
        return condition ? 1 : 0;
    }

    /** Functions over sets of nodes, or of their tokens: bit i stands for node i. */
    private static final class NodeSet {
        static int of(int node) {
            return 1 << node;
        }

        static int firstOnes(int howMany) {
            return (1 << howMany) - 1;
        }

        static boolean has(int set, int node) {
            return (set & 1 << node) != 0;
        }

        /** The set is not empty. */
        static int smallest(int set) {
            int node = 0;
            while (node < MOST_NODES - 1 && !has(set, node)) {
                node++;
            }
            return node;
        }

        /** The set is not empty. */
        static int greatest(int set) {
            int node = MOST_NODES - 1;
            while (node > 0 && !has(set, node)) {
                node--;
            }
            return node;
        }
    }

    /** Functions over sets of edges: one bit for each pair of nodes. */
    private static final class Edges {
        /** The set of the one edge between two different nodes. */
        static int between(int a, int b) {
            return a < b ? 1 << (b * (b - 1) / 2 + a) : 1 << (a * (a - 1) / 2 + b);
        }

        static boolean connects(int edges, int a, int b) {
            return (edges & between(a, b)) != 0;
        }

        static int neighbours(int edges, int node, int nodes) {
            int found = 0;
            for (int other = 0; other < nodes; other++) {
                if (other != node && connects(edges, node, other)) {
                    found |= NodeSet.of(other);
                }
            }
            return found;
        }

        /** The nodes of a set and all their neighbours. */
        static int spread(int edges, int nodeSet, int nodes) {
            int reached = nodeSet;
            for (int b = 1; b < nodes; b++) {
                for (int a = 0; a < b; a++) {
                    if (connects(edges, a, b)) {
                        reached |= NodeSet.has(nodeSet, a) ? NodeSet.of(b) : 0;
                        reached |= NodeSet.has(nodeSet, b) ? NodeSet.of(a) : 0;
                    }
                }
            }
            return reached;
        }

        /** All nodes that can be reached from a node. */
        static int component(int edges, int node, int nodes) {
            int before = 0;
            int reached = NodeSet.of(node);
            // No way is longer than all nodes but one.
            for (int length = 1; length < nodes && reached != before; length++) {
                before = reached;
                reached = spread(edges, reached, nodes);
            }
            return reached;
        }

        static int components(int edges, int nodes) {
            int found = 0;
            int seen = 0;
            for (int node = 0; node < nodes; node++) {
                if (!NodeSet.has(seen, node)) {
                    seen |= component(edges, node, nodes);
                    found++;
                }
            }
            return found;
        }

        static boolean areConnected(int edges, int nodes) {
            return component(edges, 0, nodes) == NodeSet.firstOnes(nodes);
        }

        static int greatestDegree(int edges, int nodes) {
            int greatest = 0;
            for (int node = 0; node < nodes; node++) {
                int degree = Integer.bitCount(neighbours(edges, node, nodes));
                greatest = Math.max(greatest, degree);
            }
            return greatest;
        }

        static int path(int nodes) {
            int edges = 0;
            for (int node = 1; node < nodes; node++) {
                edges |= between(node - 1, node);
            }
            return edges;
        }

        // With 2 nodes the closing edge is the path's own one, which the set holds already.
        static int ring(int nodes) {
            return path(nodes) | between(0, nodes - 1);
        }

        static int star(int center, int nodes) {
            int edges = 0;
            for (int node = 0; node < nodes; node++) {
                if (node != center) {
                    edges |= between(center, node);
                }
            }
            return edges;
        }

        /** All edges between nodes of a set. */
        static int clique(int nodeSet) {
            int edges = 0;
            for (int b = 1; b < MOST_NODES; b++) {
                for (int a = 0; a < b; a++) {
                    if (NodeSet.has(nodeSet, a) && NodeSet.has(nodeSet, b)) {
                        edges |= between(a, b);
                    }
                }
            }
            return edges;
        }
    }

    /** The nodes, their values and the rounds. */
    private static final class Schedule {
        private final int[] roundEdges = new int[MOST_ROUNDS];
        private final int[] values = new int[MOST_NODES];
        private int nodes;
        private int rounds;

        Schedule() {
            beginAnew(NODES_AT_FIRST);
        }

        void beginAnew(int newNodes) {
            nodes = newNodes;
            rounds = 0;
            for (int node = 0; node < MOST_NODES; node++) {
                values[node] = node;
            }
        }

        void become(Schedule other) {
            nodes = other.nodes;
            rounds = other.rounds;
            for (int round = 0; round < MOST_ROUNDS; round++) {
                roundEdges[round] = other.roundEdges[round];
            }
            for (int node = 0; node < MOST_NODES; node++) {
                values[node] = other.values[node];
            }
        }

        int nodes() {
            return nodes;
        }

        int rounds() {
            return rounds;
        }

        boolean isFull() {
            return rounds >= MOST_ROUNDS;
        }

        boolean hasNode(int node) {
            return node >= 0 && node < nodes;
        }

        boolean hasRound(int round) {
            return round >= 0 && round < rounds;
        }

        /** Tells whether there can be an edge between these nodes in this round. */
        boolean hasPlace(int round, int a, int b) {
            return hasRound(round) && hasNode(a) && hasNode(b) && a != b;
        }

        void append(int edges) {
            if (!isFull()) {
                roundEdges[rounds] = edges;
                rounds++;
            }
        }

        void replace(int round, int edges) {
            if (hasRound(round)) {
                roundEdges[round] = edges;
            }
        }

        void removeAt(int round) {
            if (hasRound(round)) {
                for (int later = round + 1; later < rounds; later++) {
                    roundEdges[later - 1] = roundEdges[later];
                }
                rounds--;
            }
        }

        int edgesOf(int round) {
            return hasRound(round) ? roundEdges[round] : 0;
        }

        int edgesAtStep(int step) {
            return rounds > 0 && step >= 0 ? roundEdges[step % rounds] : 0;
        }

        // A token that reaches no new node in a whole turn of the schedule never
        // reaches one again, so this many steps show all that a flooding can do.
        int longestFlooding() {
            return nodes * rounds;
        }

        int valueOf(int node) {
            return hasNode(node) ? values[node] : 0;
        }

        void give(int node, int value) {
            if (hasNode(node)) {
                values[node] = value;
            }
        }

        int smallestValue(int nodeSet) {
            int smallest = MOST_VALUE;
            for (int node = 0; node < nodes; node++) {
                if (NodeSet.has(nodeSet, node)) {
                    smallest = Math.min(smallest, values[node]);
                }
            }
            return smallest;
        }

        int edgesInAll() {
            int sum = 0;
            for (int round = 0; round < rounds; round++) {
                sum += Integer.bitCount(roundEdges[round]);
            }
            return sum;
        }

        int connectedRounds() {
            int found = 0;
            for (int round = 0; round < rounds; round++) {
                if (Edges.areConnected(roundEdges[round], nodes)) {
                    found++;
                }
            }
            return found;
        }

        int edgesThatStay(int from, int length) {
            int edges = edgesOf(from);
            for (int i = 1; i < length; i++) {
                edges &= edgesOf(from + i);
            }
            return edges;
        }

        /** Tells whether the edges that stay are connected in each window of this length. */
        boolean staysConnected(int length) {
            for (int from = 0; from + length <= rounds; from++) {
                if (!Edges.areConnected(edgesThatStay(from, length), nodes)) {
                    return false;
                }
            }
            return true;
        }

        int longestWindow(int from) {
            int length = 0;
            // A longer window has no other edges than a shorter one, so the first failure ends it.
            while (from + length < rounds
                    && Edges.areConnected(edgesThatStay(from, length + 1), nodes)) {
                length++;
            }
            return length;
        }
    }

    /** The states that undo() can restore, the oldest one first. */
    private static final class History {
        private final Schedule[] states = new Schedule[MOST_SAVED];
        private int size;

        History() {
            for (int i = 0; i < MOST_SAVED; i++) {
                states[i] = new Schedule();
            }
        }

        int size() {
            return size;
        }

        void save(Schedule state) {
            if (size >= MOST_SAVED) {
                discardOldest();
            }
            states[size].become(state);
            size++;
        }

        void restore(Schedule state) {
            if (size > 0) {
                size--;
                state.become(states[size]);
            }
        }

        private void discardOldest() {
            // The oldest object goes behind the others, to be written anew.
            Schedule oldest = states[0];
            for (int i = 1; i < MOST_SAVED; i++) {
                states[i - 1] = states[i];
            }
            states[MOST_SAVED - 1] = oldest;
            size--;
        }
    }

    /** The rounds that adversaries build. */
    private static final class Adversary {
        static int edges(int kind, int s, int informed, int nodes) {
            int others = NodeSet.firstOnes(nodes) & ~informed;
            if (kind == PATH_ADVERSARY) {
                return path(informed, others);
            }
            if (kind == STAR_ADVERSARY) {
                return Edges.star(others != 0 ? NodeSet.smallest(others) : s, nodes);
            }
            return Edges.clique(informed) | Edges.clique(others) | bridge(informed, others);
        }

        private static int path(int informed, int others) {
            return chain(informed) | chain(others) | bridge(informed, others);
        }

        /** The edges between successive nodes of a set. */
        private static int chain(int nodeSet) {
            int edges = 0;
            int last = NO_NODE;
            for (int node = 0; node < MOST_NODES; node++) {
                if (NodeSet.has(nodeSet, node)) {
                    edges |= last != NO_NODE ? Edges.between(last, node) : 0;
                    last = node;
                }
            }
            return edges;
        }

        private static int bridge(int informed, int others) {
            if (others == 0) {
                return 0;
            }
            return Edges.between(NodeSet.greatest(informed), NodeSet.smallest(others));
        }
    }

    /** The text of a schedule, and its reader. */
    private static final class ScheduleText {
        private static final int AT_END = 0;
        private static final int WORD = 1;
        private static final int NUMBER = 2;
        private static final int SEMICOLON = 3;
        private static final int OTHER = 4;
        private static final int NO_DIGIT = -1;

        private final char[] characters = new char[MOST_CHARACTERS];
        private int length;
        private int kind;
        private int start;
        private int end;

        int length() {
            return length;
        }

        boolean isFull() {
            return length >= MOST_CHARACTERS;
        }

        void append(int character) {
            if (!isFull()) {
                characters[length] = (char) character;
                length++;
            }
        }

        void clear() {
            length = 0;
        }

        /** Gives the error position, or NO_ERROR. The draft is of use only without an error. */
        int readInto(Schedule draft) {
            draft.beginAnew(NODES_AT_FIRST);
            end = 0;
            nextToken();
            for (int items = 0; items < MOST_CHARACTERS && kind != AT_END; items++) {
                // A reader stops on the token that it refuses.
                if (!readItem(draft, items == 0) || kind != SEMICOLON) {
                    return start;
                }
                nextToken();
            }
            return NO_ERROR;
        }

        /** Each reader begins on its first token and ends behind its last one. */
        private boolean readItem(Schedule draft, boolean isFirst) {
            if (kind == NUMBER) {
                return readEdges(draft);
            }
            if (isWord("nodes")) {
                return isFirst && readNodes(draft);
            }
            if (isWord("repeat")) {
                return draft.rounds() > 0 && readRepeat(draft);
            }
            if (draft.isFull()) {
                return false;
            }
            if (isWord("star")) {
                return readStar(draft);
            }
            return readPlainRound(draft);
        }

        private boolean readNodes(Schedule draft) {
            nextToken();
            int nodes = oneDigit();
            if (nodes < FEWEST_NODES || nodes > MOST_NODES) {
                return false;
            }
            draft.beginAnew(nodes);
            nextToken();
            return true;
        }

        private boolean readRepeat(Schedule draft) {
            nextToken();
            int times = oneDigit();
            if (times < 1 || times > MOST_ROUNDS - draft.rounds()) {
                return false;
            }
            int edges = draft.edgesOf(draft.rounds() - 1);
            for (int i = 0; i < times; i++) {
                draft.append(edges);
            }
            nextToken();
            return true;
        }

        private boolean readStar(Schedule draft) {
            nextToken();
            int center = oneDigit();
            if (!draft.hasNode(center)) {
                return false;
            }
            draft.append(Edges.star(center, draft.nodes()));
            nextToken();
            return true;
        }

        private boolean readPlainRound(Schedule draft) {
            int nodes = draft.nodes();
            if (isWord("none")) {
                draft.append(0);
            } else if (isWord("full")) {
                draft.append(Edges.clique(NodeSet.firstOnes(nodes)));
            } else if (isWord("path")) {
                draft.append(Edges.path(nodes));
            } else if (isWord("ring")) {
                draft.append(Edges.ring(nodes));
            } else {
                return false;
            }
            nextToken();
            return true;
        }

        private boolean readEdges(Schedule draft) {
            if (draft.isFull()) {
                return false;
            }
            int edges = 0;
            for (int i = 0; i < MOST_CHARACTERS && kind == NUMBER; i++) {
                if (!isEdge(draft)) {
                    return false;
                }
                edges |= Edges.between(digitAt(start), digitAt(start + 1));
                nextToken();
            }
            draft.append(edges);
            return true;
        }

        private boolean isEdge(Schedule draft) {
            if (end - start != 2) {
                return false;
            }
            int a = digitAt(start);
            int b = digitAt(start + 1);
            return draft.hasNode(a) && draft.hasNode(b) && a != b;
        }

        /** The number that the token is, or NO_DIGIT if it is not a number of one digit. */
        private int oneDigit() {
            return kind == NUMBER && end - start == 1 ? digitAt(start) : NO_DIGIT;
        }

        private int digitAt(int offset) {
            return characterAt(offset) - '0';
        }

        private boolean isWord(String word) {
            if (kind != WORD || end - start != word.length()) {
                return false;
            }
            for (int i = 0; i < word.length(); i++) {
                if (characterAt(start + i) != word.charAt(i)) {
                    return false;
                }
            }
            return true;
        }

        private void nextToken() {
            start = end;
            while (start < length && characterAt(start) == ' ') {
                start++;
            }
            end = start;
            kind = kindAt(start);
            if (kind == WORD || kind == NUMBER) {
                while (end < length && kindAt(end) == kind) {
                    end++;
                }
            } else if (kind != AT_END) {
                end++;
            }
        }

        private int kindAt(int offset) {
            if (offset >= length) {
                return AT_END;
            }
            char character = characterAt(offset);
            if (character >= 'a' && character <= 'z') {
                return WORD;
            }
            if (character >= '0' && character <= '9') {
                return NUMBER;
            }
            return character == ';' ? SEMICOLON : OTHER;
        }

        private char characterAt(int offset) {
            return offset >= 0 && offset < length ? characters[offset] : ' ';
        }
    }

    /** A flooding: which tokens each node knows. */
    private static final class Flooding {
        private final Schedule schedule;
        private final int[] known = new int[MOST_NODES];
        private final int[] knownBefore = new int[MOST_NODES];
        private int step;

        Flooding(Schedule schedule) {
            this.schedule = schedule;
        }

        void begin(int firstStep) {
            step = firstStep;
            for (int node = 0; node < MOST_NODES; node++) {
                known[node] = NodeSet.of(node);
            }
        }

        void advance() {
            int edges = schedule.edgesAtStep(step);
            for (int node = 0; node < MOST_NODES; node++) {
                knownBefore[node] = known[node];
            }
            for (int b = 1; b < schedule.nodes(); b++) {
                for (int a = 0; a < b; a++) {
                    if (Edges.connects(edges, a, b)) {
                        known[a] |= knownBefore[b];
                        known[b] |= knownBefore[a];
                    }
                }
            }
            step++;
        }

        void advanceBy(int steps) {
            for (int i = 0; i < steps; i++) {
                advance();
            }
        }

        int tokensOf(int node) {
            return schedule.hasNode(node) ? known[node] : 0;
        }

        /** The tokens that every node knows. */
        int tokensOfAll() {
            int tokens = NodeSet.firstOnes(schedule.nodes());
            for (int node = 0; node < schedule.nodes(); node++) {
                tokens &= known[node];
            }
            return tokens;
        }

        /** The nodes that know a token. */
        int knowersOf(int token) {
            int knowers = 0;
            for (int node = 0; node < schedule.nodes(); node++) {
                if (NodeSet.has(known[node], token)) {
                    knowers |= NodeSet.of(node);
                }
            }
            return knowers;
        }
    }

    /** Gossip: each node sends one token in each step. */
    private static final class Gossip {
        private final Schedule schedule;
        private final int[] known = new int[MOST_NODES];
        private final int[] sent = new int[MOST_NODES];
        private final int[] newest = new int[MOST_NODES];
        private final int[] chosen = new int[MOST_NODES];
        private int rule;
        private int step;

        Gossip(Schedule schedule) {
            this.schedule = schedule;
        }

        void begin(int newRule) {
            rule = newRule;
            step = 0;
            for (int node = 0; node < MOST_NODES; node++) {
                known[node] = NodeSet.of(node);
                sent[node] = 0;
                newest[node] = node;
            }
        }

        void advance() {
            // All choose before any receives, because they choose by what they knew before.
            for (int node = 0; node < schedule.nodes(); node++) {
                chosen[node] = choice(node);
                sent[node] |= NodeSet.of(chosen[node]);
            }
            int edges = schedule.edgesAtStep(step);
            for (int node = 0; node < schedule.nodes(); node++) {
                learn(node, tokensSentBy(Edges.neighbours(edges, node, schedule.nodes())));
            }
            step++;
        }

        int tokensOf(int node) {
            return schedule.hasNode(node) ? known[node] : 0;
        }

        boolean allKnowAll() {
            for (int node = 0; node < schedule.nodes(); node++) {
                if (known[node] != NodeSet.firstOnes(schedule.nodes())) {
                    return false;
                }
            }
            return true;
        }

        private int choice(int node) {
            if (rule == LEAST_RULE) {
                int unsent = known[node] & ~sent[node];
                return NodeSet.smallest(unsent != 0 ? unsent : known[node]);
            }
            if (rule == NEWEST_RULE) {
                return newest[node];
            }
            int turn = schedule.nodes() > 0 ? step % schedule.nodes() : node;
            return NodeSet.has(known[node], turn) ? turn : node;
        }

        private int tokensSentBy(int nodeSet) {
            int tokens = 0;
            for (int node = 0; node < schedule.nodes(); node++) {
                if (NodeSet.has(nodeSet, node)) {
                    tokens |= NodeSet.of(chosen[node]);
                }
            }
            return tokens;
        }

        private void learn(int node, int tokens) {
            int unknown = tokens & ~known[node];
            if (unknown != 0) {
                known[node] |= unknown;
                newest[node] = NodeSet.greatest(unknown);
            }
        }
    }

    /** The counting by doubled guesses. */
    private static final class Counting {
        private final Schedule schedule;
        private final Flooding flooding;
        private final int[] answers = new int[MOST_NODES];
        private int steps;

        Counting(Schedule schedule, Flooding flooding) {
            this.schedule = schedule;
            this.flooding = flooding;
        }

        void run() {
            steps = 0;
            for (int node = 0; node < MOST_NODES; node++) {
                answers[node] = NO_ANSWER_YET;
            }
            for (int guess = 1; guess <= GREATEST_GUESS && !allHaveAnswers(); guess *= 2) {
                runPhase(guess);
            }
        }

        int steps() {
            return steps;
        }

        int answerOf(int node) {
            return schedule.hasNode(node) ? answers[node] : NO_ANSWER_YET;
        }

        int wrongAnswers() {
            int wrong = 0;
            for (int node = 0; node < schedule.nodes(); node++) {
                if (answers[node] != schedule.nodes()) {
                    wrong++;
                }
            }
            return wrong;
        }

        private void runPhase(int guess) {
            flooding.begin(steps);
            flooding.advanceBy(guess);
            int alarmed = nodesWithMoreThan(guess);
            for (int i = guess; i < 2 * guess; i++) {
                int edges = schedule.edgesAtStep(steps + i);
                alarmed = Edges.spread(edges, alarmed, schedule.nodes());
            }
            steps += 2 * guess;
            answerWithoutAlarm(alarmed);
        }

        private int nodesWithMoreThan(int guess) {
            int found = 0;
            for (int node = 0; node < schedule.nodes(); node++) {
                if (Integer.bitCount(flooding.tokensOf(node)) > guess) {
                    found |= NodeSet.of(node);
                }
            }
            return found;
        }

        private void answerWithoutAlarm(int alarmed) {
            for (int node = 0; node < schedule.nodes(); node++) {
                if (!NodeSet.has(alarmed, node) && answers[node] == NO_ANSWER_YET) {
                    answers[node] = Integer.bitCount(flooding.tokensOf(node));
                }
            }
        }

        private boolean allHaveAnswers() {
            for (int node = 0; node < schedule.nodes(); node++) {
                if (answers[node] == NO_ANSWER_YET) {
                    return false;
                }
            }
            return true;
        }
    }
}
