import java.lang.reflect.Method;
import java.util.ArrayList;
import java.util.List;
import java.util.Random;

/**
 * All promises: long runs of calls on the class and on the model, always the
 * same ones, with every answer compared.
 */
public final class ModelTest {
    private static final int CALLS_OF_AN_OBJECT = 512;
    private static final int MIXED_RUNS = 400;
    private static final int TEXT_RUNS = 6000;
    private static final String[] PIECES = {
        "nodes ", "nodes", "none;", "full;", "path;", "ring;", "star ", "star", "repeat ",
        "repeat", "repeat 1;", "repeat 2;", "repeat 9;", "01", "12 ", "10 ", "23;", "45 ",
        "67", "0", "1", "2", "3", "4", "7", "8", "9", ";", ";", ";", " ", " ", "x", "!", "none",
        "path ", "nodes 8;", "nodes 3;", "01 12;", "02 13 23;", "star 1;", "star 0;"};
    private static final Check check = new Check();

    private final Random random;
    private final ChangingRounds real = new ChangingRounds();
    private final Model model = new Model();
    private final StringBuilder story = new StringBuilder();
    private int calls;

    private ModelTest(long seed) {
        random = new Random(seed);
    }

    public static void main(String[] args) throws Exception {
        for (int run = 0; run < MIXED_RUNS; run++) {
            new ModelTest(run).mixedRun();
        }
        for (int run = 0; run < TEXT_RUNS; run++) {
            new ModelTest(1_000_000 + run).textRun();
        }
        check.end();
    }

    private void call(String name, int... arguments) throws Exception {
        if (calls >= CALLS_OF_AN_OBJECT) {
            return;
        }
        calls++;
        Class<?>[] types = new Class<?>[arguments.length];
        Object[] boxed = new Object[arguments.length];
        for (int i = 0; i < arguments.length; i++) {
            types[i] = int.class;
            boxed[i] = arguments[i];
        }
        Method ofReal = ChangingRounds.class.getMethod(name, types);
        Method ofModel = Model.class.getDeclaredMethod(name, types);
        story.append(name).append(java.util.Arrays.toString(arguments)).append(' ');
        int got = (int) ofReal.invoke(real, boxed);
        int want = (int) ofModel.invoke(model, boxed);
        check.due(got == want ? "" : story.toString(), got, want);
    }

    /** A number from low to high, now and then one outside. */
    private int about(int low, int high) {
        switch (random.nextInt(40)) {
            case 0: return low - 1;
            case 1: return high + 1;
            case 2: return random.nextBoolean() ? Integer.MIN_VALUE : Integer.MAX_VALUE;
            default: return low + random.nextInt(Math.max(1, high - low + 1));
        }
    }

    private int node() {
        return about(0, model.count(0) - 1);
    }

    private int round() {
        return about(0, model.count(1) - 1);
    }

    private void mixedRun() throws Exception {
        call("setNodes", about(2, 8));
        int rounds = random.nextInt(17);
        for (int round = 0; round < rounds; round++) {
            addSomeRound();
        }
        while (calls < CALLS_OF_AN_OBJECT) {
            if (random.nextInt(3) == 0) {
                change();
            } else {
                ask();
            }
        }
    }

    private void addSomeRound() throws Exception {
        if (random.nextInt(3) == 0) {
            call("addAdversary", about(0, 2), node());
            return;
        }
        call("addRound");
        int edges = random.nextInt(1 + model.count(0));
        for (int i = 0; i < edges; i++) {
            call("setEdge", model.count(1) - 1, node(), node(), 1);
        }
    }

    private void change() throws Exception {
        switch (random.nextInt(24)) {
            case 0: call("setNodes", about(2, 8)); break;
            case 1: call("addRound"); break;
            case 2: call("removeRound", round()); break;
            case 3: call("swapRounds", round(), round()); break;
            case 4:
            case 5:
            case 6: addSomeRound(); break;
            case 7:
            case 8: call("setValue", node(), about(0, 99)); break;
            case 9: call("setValue", node(), about(0, 1)); break;
            case 10:
            case 11: call("undo"); break;
            case 12:
                write(someText(25));
                call("load");
                break;
            case 13: call("clearText"); break;
            default: call("setEdge", round(), node(), node(), about(0, 1)); break;
        }
    }

    private void ask() throws Exception {
        switch (random.nextInt(20)) {
            case 0: call("edge", round(), node(), node()); break;
            case 1: call("count", about(0, 5)); break;
            case 2: call("value", node()); break;
            case 3: call("round", round(), about(0, 3)); break;
            case 4: call("staying", round(), about(1, 4)); break;
            case 5: call("isStable", about(1, Math.max(1, model.count(1)))); break;
            case 6: call("greatestStable"); break;
            case 7: call("window", round()); break;
            case 8: call("heard", node(), about(0, 99), about(0, 20)); break;
            case 9: call("heard", node(), about(0, 99), about(0, 99)); break;
            case 10: call("journey", node(), node(), about(0, 99)); break;
            case 11: call("diameter", about(0, 99)); break;
            case 12: call("center"); break;
            case 13: call("gossip", about(0, 2), node(), about(0, 99)); break;
            case 14: call("gossip", about(0, 2), node(), about(0, 12)); break;
            case 15: call("gossipTime", about(0, 2)); break;
            case 16: call("decision", node(), about(0, 10)); break;
            case 17: call("agreement"); break;
            case 18: call("counted", node()); break;
            default:
                call("countingSteps");
                call("wrongCounts");
                break;
        }
    }

    private String someText(int pieces) {
        StringBuilder text = new StringBuilder();
        int many = random.nextInt(pieces);
        for (int i = 0; i < many; i++) {
            text.append(PIECES[random.nextInt(PIECES.length)]);
        }
        return text.toString();
    }

    /** A text that is right, but for a change of one character in every second one. */
    private String nearlyRightText() {
        List<String> items = new ArrayList<>();
        int nodes = 4;
        if (random.nextBoolean()) {
            nodes = 2 + random.nextInt(7);
            items.add("nodes " + nodes);
        }
        int rounds = random.nextInt(8);
        for (int i = 0; i < rounds; i++) {
            items.add(nearlyRightItem(nodes));
        }
        StringBuilder text = new StringBuilder();
        for (String item : items) {
            text.append(item).append(random.nextInt(4) == 0 ? " ; " : ";");
        }
        if (random.nextBoolean() && text.length() > 0) {
            int place = random.nextInt(text.length());
            String piece = PIECES[random.nextInt(PIECES.length)];
            text.replace(place, place + random.nextInt(2), piece);
        }
        if (random.nextInt(4) == 0) {
            text.setLength(random.nextInt(text.length() + 1));
        }
        return text.toString();
    }

    private String nearlyRightItem(int nodes) {
        switch (random.nextInt(7)) {
            case 0: return "none";
            case 1: return "full";
            case 2: return "path";
            case 3: return "ring";
            case 4: return "star " + random.nextInt(nodes);
            case 5: return "repeat " + (1 + random.nextInt(random.nextBoolean() ? 3 : 9));
            default:
                StringBuilder edges = new StringBuilder();
                int many = 1 + random.nextInt(4);
                for (int i = 0; i < many; i++) {
                    int a = random.nextInt(nodes);
                    int b = (a + 1 + random.nextInt(nodes - 1)) % nodes;
                    edges.append(i > 0 ? " " : "").append(a).append(b);
                }
                return edges.toString();
        }
    }

    private void write(String text) throws Exception {
        for (int i = 0; i < text.length(); i++) {
            call("appendCharacter", text.charAt(i));
        }
    }

    private void textRun() throws Exception {
        write(random.nextInt(4) == 0 ? someText(30) : nearlyRightText());
        call("load");
        for (int what = 0; what <= 5; what++) {
            call("count", what);
        }
        for (int round = 0; round < model.count(1); round++) {
            for (int a = 1; a < model.count(0); a++) {
                for (int b = 0; b < a; b++) {
                    call("edge", round, a, b);
                }
            }
        }
        call("undo");
        call("load");
    }
}
