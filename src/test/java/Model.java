import java.util.ArrayDeque;
import java.util.ArrayList;
import java.util.Arrays;
import java.util.Collections;
import java.util.Deque;
import java.util.HashMap;
import java.util.List;
import java.util.Map;
import java.util.Set;
import java.util.TreeMap;
import java.util.TreeSet;

/**
 * The document once more, written with the Java library and without regard to
 * cost, so that ModelTest can hold the class against it.
 */
final class Model {
    private static final int INVALID = -1;
    private static final int STATE = -2;
    private static final int CAPACITY = -3;
    private static final int NONE = -9;

    /** A state: edges are written as texts such as "03", the smaller node first. */
    private record State(int nodes, List<Set<String>> rounds, List<Integer> values) {
        static State fresh(int nodes) {
            List<Integer> numbers = new ArrayList<>();
            for (int i = 0; i < nodes; i++) {
                numbers.add(i);
            }
            return new State(nodes, new ArrayList<>(), numbers);
        }

        State copy() {
            List<Set<String>> copies = new ArrayList<>();
            for (Set<String> round : rounds) {
                copies.add(new TreeSet<>(round));
            }
            return new State(nodes, copies, new ArrayList<>(values));
        }
    }

    private State state = State.fresh(4);
    private final Deque<State> saved = new ArrayDeque<>();
    private String text = "";

    private void save() {
        saved.addLast(state.copy());
        if (saved.size() > 6) {
            saved.removeFirst();
        }
    }

    private boolean noNode(int node) {
        return node < 0 || node >= state.nodes;
    }

    private boolean noRound(int round) {
        return round < 0 || round >= state.rounds.size();
    }

    private static boolean noStep(int step) {
        return step < 0 || step > 99;
    }

    private static String name(int a, int b) {
        return "" + Math.min(a, b) + Math.max(a, b);
    }

    private Set<String> edgesOfStep(int step) {
        int size = state.rounds.size();
        return size == 0 ? new TreeSet<>() : state.rounds.get(step % size);
    }

    private int numberOfNodes() {
        return state.nodes;
    }

    int setNodes(int nodes) {
        if (nodes < 2 || nodes > 8) {
            return INVALID;
        }
        save();
        int before = numberOfNodes();
        state = State.fresh(nodes);
        return before;
    }

    int addRound() {
        if (state.rounds.size() == 16) {
            return CAPACITY;
        }
        save();
        state.rounds.add(new TreeSet<>());
        return state.rounds.size() - 1;
    }

    int setEdge(int round, int a, int b, int on) {
        if (noRound(round) || noNode(a) || noNode(b) || a == b || (on != 0 && on != 1)) {
            return INVALID;
        }
        boolean there = state.rounds.get(round).contains(name(a, b));
        if (there == (on == 1)) {
            return STATE;
        }
        save();
        if (there) {
            state.rounds.get(round).remove(name(a, b));
        } else {
            state.rounds.get(round).add(name(a, b));
        }
        return state.rounds.get(round).size();
    }

    int removeRound(int round) {
        if (noRound(round)) {
            return INVALID;
        }
        save();
        state.rounds.remove(round);
        return state.rounds.size();
    }

    int swapRounds(int first, int second) {
        if (noRound(first) || noRound(second)) {
            return INVALID;
        }
        save();
        int differ = 0;
        for (int a = 0; a < 8; a++) {
            for (int b = a + 1; b < 8; b++) {
                boolean one = state.rounds.get(first).contains(name(a, b));
                boolean other = state.rounds.get(second).contains(name(a, b));
                differ += one != other ? 1 : 0;
            }
        }
        Collections.swap(state.rounds, first, second);
        return differ;
    }

    int addAdversary(int kind, int s) {
        if (kind < 0 || kind > 2 || noNode(s)) {
            return INVALID;
        }
        if (state.rounds.size() == 16) {
            return CAPACITY;
        }
        List<Integer> informed = new ArrayList<>();
        List<Integer> others = new ArrayList<>();
        List<Set<Integer>> known = flood(0, state.rounds.size());
        for (int node = 0; node < state.nodes; node++) {
            (known.get(node).contains(s) ? informed : others).add(node);
        }
        Set<String> edges = new TreeSet<>();
        if (kind == 0) {
            List<Integer> order = new ArrayList<>(informed);
            order.addAll(others);
            for (int i = 0; i + 1 < order.size(); i++) {
                edges.add(name(order.get(i), order.get(i + 1)));
            }
        } else if (kind == 1) {
            edges.addAll(star(others.isEmpty() ? s : others.get(0), state.nodes));
        } else {
            edges.addAll(clique(informed));
            edges.addAll(clique(others));
            if (!others.isEmpty()) {
                edges.add(name(informed.get(informed.size() - 1), others.get(0)));
            }
        }
        save();
        state.rounds.add(edges);
        return edges.size();
    }

    private static Set<String> star(int center, int nodes) {
        Set<String> edges = new TreeSet<>();
        for (int node = 0; node < nodes; node++) {
            if (node != center) {
                edges.add(name(center, node));
            }
        }
        return edges;
    }

    private static Set<String> clique(List<Integer> members) {
        Set<String> edges = new TreeSet<>();
        for (int a : members) {
            for (int b : members) {
                if (a != b) {
                    edges.add(name(a, b));
                }
            }
        }
        return edges;
    }

    int setValue(int node, int value) {
        if (noNode(node) || value < 0 || value > 99) {
            return INVALID;
        }
        save();
        return state.values.set(node, value);
    }

    int edge(int round, int a, int b) {
        if (noRound(round) || noNode(a) || noNode(b) || a == b) {
            return INVALID;
        }
        return state.rounds.get(round).contains(name(a, b)) ? 1 : 0;
    }

    int count(int what) {
        int sum = 0;
        switch (what) {
            case 0: return state.nodes;
            case 1: return state.rounds.size();
            case 2:
                for (Set<String> edges : state.rounds) {
                    sum += edges.size();
                }
                return sum;
            case 3:
                for (Set<String> edges : state.rounds) {
                    sum += parts(edges) == 1 ? 1 : 0;
                }
                return sum;
            case 4: return text.length();
            case 5: return saved.size();
            default: return INVALID;
        }
    }

    /** Counts components by giving both ends of each edge one colour. */
    private int parts(Set<String> edges) {
        int[] colour = new int[state.nodes];
        for (int i = 0; i < colour.length; i++) {
            colour[i] = i;
        }
        for (String edge : edges) {
            int from = colour[edge.charAt(0) - '0'];
            int to = colour[edge.charAt(1) - '0'];
            for (int i = 0; i < colour.length; i++) {
                colour[i] = colour[i] == from ? to : colour[i];
            }
        }
        return (int) Arrays.stream(colour).distinct().count();
    }

    int value(int node) {
        return noNode(node) ? INVALID : state.values.get(node);
    }

    int appendCharacter(int character) {
        if (character < 0 || character > 255) {
            return INVALID;
        }
        if (text.length() == 120) {
            return CAPACITY;
        }
        text += (char) character;
        return text.length();
    }

    int clearText() {
        int before = text.length();
        text = "";
        return before;
    }

    int load() {
        State read = State.fresh(4);
        TreeMap<Integer, String> tokens = tokens();
        List<Integer> starts = new ArrayList<>(tokens.keySet());
        int i = 0;
        // expect: 0 an item, 1 N, 2 NODE, 3 COUNT, 4 an edge or the end, 5 the end
        int expect = 0;
        boolean first = true;
        for (; i < starts.size(); i++) {
            String token = tokens.get(starts.get(i));
            int refused = -10 - starts.get(i);
            int size = read.rounds.size();
            int digit = token.matches("[0-9]") ? token.charAt(0) - '0' : -1;
            if (expect == 0 && token.equals("nodes")) {
                if (!first) {
                    return refused;
                }
                expect = 1;
            } else if (expect == 0 && token.equals("repeat")) {
                if (size == 0) {
                    return refused;
                }
                expect = 3;
            } else if (expect == 0) {
                Set<String> edges = token.matches("[0-9]+") ? edgeOf(token, read.nodes)
                        : roundOf(token, read.nodes);
                if (size == 16 || edges == null) {
                    return refused;
                }
                read.rounds.add(edges);
                expect = token.equals("star") ? 2 : token.matches("[0-9]+") ? 4 : 5;
            } else if (expect == 1) {
                if (digit < 2 || digit > 8) {
                    return refused;
                }
                read = State.fresh(digit);
                expect = 5;
            } else if (expect == 2) {
                if (digit < 0 || digit >= read.nodes) {
                    return refused;
                }
                read.rounds.set(size - 1, star(digit, read.nodes));
                expect = 5;
            } else if (expect == 3) {
                if (digit < 1 || size + digit > 16) {
                    return refused;
                }
                for (int k = 0; k < digit; k++) {
                    read.rounds.add(new TreeSet<>(read.rounds.get(size - 1)));
                }
                expect = 5;
            } else if (token.equals(";")) {
                expect = 0;
            } else if (expect == 4 && edgeOf(token, read.nodes) != null) {
                read.rounds.get(size - 1).addAll(edgeOf(token, read.nodes));
            } else {
                return refused;
            }
            first = false;
        }
        if (expect != 0) {
            return -10 - text.length();
        }
        save();
        state = read;
        text = "";
        return state.rounds.size();
    }

    private TreeMap<Integer, String> tokens() {
        TreeMap<Integer, String> found = new TreeMap<>();
        java.util.regex.Matcher matcher = java.util.regex.Pattern
                .compile("[a-z]+|[0-9]+|[^ ]", java.util.regex.Pattern.DOTALL).matcher(text);
        while (matcher.find()) {
            found.put(matcher.start(), matcher.group());
        }
        return found;
    }

    private static Set<String> edgeOf(String token, int nodes) {
        if (!token.matches("[0-9][0-9]")) {
            return null;
        }
        int a = token.charAt(0) - '0';
        int b = token.charAt(1) - '0';
        return a < nodes && b < nodes && a != b ? new TreeSet<>(Set.of(name(a, b))) : null;
    }

    private static Set<String> roundOf(String word, int nodes) {
        Set<String> edges = new TreeSet<>();
        switch (word) {
            case "none":
            case "star":
                return edges;
            case "full":
                for (int a = 0; a < nodes; a++) {
                    for (int b = a + 1; b < nodes; b++) {
                        edges.add(name(a, b));
                    }
                }
                return edges;
            case "ring":
                if (nodes >= 3) {
                    edges.add(name(0, nodes - 1));
                }
                edges.addAll(roundOf("path", nodes));
                return edges;
            case "path":
                for (int a = 0; a + 1 < nodes; a++) {
                    edges.add(name(a, a + 1));
                }
                return edges;
            default:
                return null;
        }
    }

    int round(int round, int what) {
        if (noRound(round) || what < 0 || what > 3) {
            return INVALID;
        }
        Set<String> edges = state.rounds.get(round);
        if (what == 0) {
            return edges.size();
        }
        if (what == 1) {
            return parts(edges) == 1 ? 1 : 0;
        }
        if (what == 2) {
            return parts(edges);
        }
        Map<Character, Integer> degrees = new HashMap<>();
        for (String edge : edges) {
            degrees.merge(edge.charAt(0), 1, Integer::sum);
            degrees.merge(edge.charAt(1), 1, Integer::sum);
        }
        return degrees.values().stream().max(Integer::compare).orElse(0);
    }

    private Set<String> stay(int from, int length) {
        Set<String> edges = new TreeSet<>(state.rounds.get(from));
        for (int round = from; round < from + length; round++) {
            edges.retainAll(state.rounds.get(round));
        }
        return edges;
    }

    int staying(int from, int length) {
        if (noRound(from) || length < 1 || (long) from + length > state.rounds.size()) {
            return INVALID;
        }
        return stay(from, length).size();
    }

    int isStable(int t) {
        if (t < 1 || t > state.rounds.size()) {
            return INVALID;
        }
        for (int from = 0; from + t <= state.rounds.size(); from++) {
            if (parts(stay(from, t)) != 1) {
                return 0;
            }
        }
        return 1;
    }

    int greatestStable() {
        int greatest = 0;
        for (int t = 1; t <= state.rounds.size(); t++) {
            greatest = isStable(t) == 1 ? t : greatest;
        }
        return greatest;
    }

    int window(int round) {
        if (noRound(round)) {
            return INVALID;
        }
        int greatest = 0;
        for (int length = 1; round + length <= state.rounds.size(); length++) {
            greatest = parts(stay(round, length)) == 1 ? length : greatest;
        }
        return greatest;
    }

    /** What each node knows after a flooding. */
    private List<Set<Integer>> flood(int from, int steps) {
        List<Set<Integer>> known = new ArrayList<>();
        for (int node = 0; node < state.nodes; node++) {
            known.add(new TreeSet<>(Set.of(node)));
        }
        for (int step = from; step < from + steps; step++) {
            List<Set<Integer>> next = new ArrayList<>();
            for (Set<Integer> tokens : known) {
                next.add(new TreeSet<>(tokens));
            }
            for (String edge : edgesOfStep(step)) {
                int a = edge.charAt(0) - '0';
                int b = edge.charAt(1) - '0';
                next.get(a).addAll(known.get(b));
                next.get(b).addAll(known.get(a));
            }
            known = next;
        }
        return known;
    }

    private static int bits(Set<Integer> members) {
        int set = 0;
        for (int member : members) {
            set += 1 << member;
        }
        return set;
    }

    int heard(int node, int from, int steps) {
        if (noNode(node) || noStep(from) || noStep(steps)) {
            return INVALID;
        }
        return bits(flood(from, steps).get(node));
    }

    /** Follows the nodes that one token reaches, step by step, for very many steps. */
    int journey(int a, int b, int from) {
        if (noNode(a) || noNode(b) || noStep(from)) {
            return INVALID;
        }
        Set<Integer> reached = new TreeSet<>(Set.of(a));
        for (int steps = 0; steps < 400; steps++) {
            if (reached.contains(b)) {
                return steps;
            }
            Set<Integer> next = new TreeSet<>(reached);
            for (String edge : edgesOfStep(from + steps)) {
                int one = edge.charAt(0) - '0';
                int other = edge.charAt(1) - '0';
                if (reached.contains(one) || reached.contains(other)) {
                    next.add(one);
                    next.add(other);
                }
            }
            reached = next;
        }
        return NONE;
    }

    private int greatestJourney(int a, int from) {
        int greatest = 0;
        for (int b = 0; b < state.nodes; b++) {
            int steps = journey(a, b, from);
            if (steps == NONE) {
                return NONE;
            }
            greatest = Math.max(greatest, steps);
        }
        return greatest;
    }

    int diameter(int from) {
        if (noStep(from)) {
            return INVALID;
        }
        int greatest = 0;
        for (int a = 0; a < state.nodes; a++) {
            int steps = greatestJourney(a, from);
            if (steps == NONE) {
                return NONE;
            }
            greatest = Math.max(greatest, steps);
        }
        return greatest;
    }

    int center() {
        int best = NONE;
        for (int a = 0; a < state.nodes; a++) {
            int steps = greatestJourney(a, 0);
            if (steps != NONE && (best == NONE || steps < greatestJourney(best, 0))) {
                best = a;
            }
        }
        return best;
    }

    /** By node: the tokens it knows, with the step after which it knew each. */
    private List<TreeMap<Integer, Integer>> gossipUntil(int rule, int steps) {
        List<TreeMap<Integer, Integer>> known = new ArrayList<>();
        List<Set<Integer>> sent = new ArrayList<>();
        for (int node = 0; node < state.nodes; node++) {
            known.add(new TreeMap<>(Map.of(node, 0)));
            sent.add(new TreeSet<>());
        }
        for (int step = 0; step < steps; step++) {
            List<Integer> choices = new ArrayList<>();
            for (int node = 0; node < state.nodes; node++) {
                choices.add(choose(rule, step, node, known.get(node), sent.get(node)));
                sent.get(node).add(choices.get(node));
            }
            for (String edge : edgesOfStep(step)) {
                int a = edge.charAt(0) - '0';
                int b = edge.charAt(1) - '0';
                known.get(a).putIfAbsent(choices.get(b), step + 1);
                known.get(b).putIfAbsent(choices.get(a), step + 1);
            }
        }
        return known;
    }

    private int choose(int rule, int step, int node, TreeMap<Integer, Integer> known,
            Set<Integer> sent) {
        if (rule == 0) {
            for (int token : known.keySet()) {
                if (!sent.contains(token)) {
                    return token;
                }
            }
            return known.firstKey();
        }
        if (rule == 1) {
            int best = node;
            for (int token : known.keySet()) {
                best = known.get(token) >= known.get(best) && known.get(token) > 0 ? token : best;
            }
            return best;
        }
        return known.containsKey(step % state.nodes) ? step % state.nodes : node;
    }

    int gossip(int rule, int node, int steps) {
        if (rule < 0 || rule > 2 || noNode(node) || noStep(steps)) {
            return INVALID;
        }
        return bits(gossipUntil(rule, steps).get(node).keySet());
    }

    int gossipTime(int rule) {
        if (rule < 0 || rule > 2) {
            return INVALID;
        }
        // The time at which the last token was learned, if all are known in the end.
        int last = 0;
        for (TreeMap<Integer, Integer> tokens : gossipUntil(rule, 99)) {
            if (tokens.size() < state.nodes) {
                return NONE;
            }
            last = Math.max(last, Collections.max(tokens.values()));
        }
        return last;
    }

    private int smallestOf(Set<Integer> nodes) {
        return nodes.stream().map(state.values::get).min(Integer::compare).orElseThrow();
    }

    int decision(int node, int steps) {
        if (noNode(node) || noStep(steps)) {
            return INVALID;
        }
        return smallestOf(flood(0, steps).get(node));
    }

    /** All agree as soon as each has heard of one of the nodes with the smallest value. */
    int agreement() {
        int smallest = Collections.min(state.values);
        int last = 0;
        for (int b = 0; b < state.nodes; b++) {
            int soonest = NONE;
            for (int a = 0; a < state.nodes; a++) {
                int steps = state.values.get(a) == smallest ? journey(a, b, 0) : NONE;
                if (steps != NONE && (soonest == NONE || steps < soonest)) {
                    soonest = steps;
                }
            }
            if (soonest == NONE) {
                return NONE;
            }
            last = Math.max(last, soonest);
        }
        return last;
    }

    /** The decisions of all nodes, and behind them the number of steps. */
    private int[] counting() {
        int[] decided = new int[state.nodes + 1];
        int begin = 0;
        for (int guess : new int[] {1, 2, 4, 8}) {
            List<Set<Integer>> known = flood(begin, guess);
            Set<Integer> alarms = new TreeSet<>();
            for (int node = 0; node < state.nodes; node++) {
                if (known.get(node).size() > guess) {
                    alarms.add(node);
                }
            }
            for (int step = begin + guess; step < begin + 2 * guess; step++) {
                Set<Integer> before = new TreeSet<>(alarms);
                for (String edge : edgesOfStep(step)) {
                    int a = edge.charAt(0) - '0';
                    int b = edge.charAt(1) - '0';
                    if (before.contains(a)) {
                        alarms.add(b);
                    }
                    if (before.contains(b)) {
                        alarms.add(a);
                    }
                }
            }
            begin += 2 * guess;
            boolean all = true;
            for (int node = 0; node < state.nodes; node++) {
                if (decided[node] == 0 && !alarms.contains(node)) {
                    decided[node] = known.get(node).size();
                }
                all &= decided[node] != 0;
            }
            if (all) {
                break;
            }
        }
        decided[state.nodes] = begin;
        return decided;
    }

    int counted(int node) {
        return noNode(node) ? INVALID : counting()[node];
    }

    int countingSteps() {
        return counting()[state.nodes];
    }

    int wrongCounts() {
        int[] decided = counting();
        int wrong = 0;
        for (int node = 0; node < state.nodes; node++) {
            wrong += decided[node] != state.nodes ? 1 : 0;
        }
        return wrong;
    }

    int undo() {
        if (saved.isEmpty()) {
            return STATE;
        }
        state = saved.removeLast();
        return saved.size();
    }
}
