import java.lang.reflect.Constructor;
import java.lang.reflect.Field;
import java.lang.reflect.Method;
import java.lang.reflect.Modifier;
import java.util.Arrays;
import java.util.Map;
import java.util.Set;
import java.util.TreeMap;
import java.util.TreeSet;

/** The public face: what the document lists is there, and nothing else is visible. */
public final class FaceTest {
    /** Each method of the document with the number of its int parameters. */
    private static final String METHODS = "setNodes 1 addRound 0 setEdge 4 removeRound 1 "
            + "swapRounds 2 addAdversary 2 setValue 2 edge 3 count 1 value 1 appendCharacter 1 "
            + "clearText 0 load 0 round 2 staying 2 isStable 1 greatestStable 0 window 1 heard 3 "
            + "journey 3 diameter 1 center 0 gossip 3 gossipTime 1 decision 2 agreement 0 "
            + "counted 1 countingSteps 0 wrongCounts 0 undo 0";
    private static final Map<String, Integer> CONSTANTS = Map.of(
            "INVALID_ARGUMENT", -1, "ILLEGAL_STATE", -2, "CAPACITY_EXCEEDED", -3, "NONE", -9);
    private static final Check check = new Check();

    public static void main(String[] args) throws Exception {
        theClass();
        constants();
        methods();
        check.end();
    }

    private static void theClass() {
        int modifiers = ChangingRounds.class.getModifiers();
        check.holds("public", Modifier.isPublic(modifiers));
        check.holds("final", Modifier.isFinal(modifiers));
        Constructor<?>[] constructors = ChangingRounds.class.getDeclaredConstructors();
        check.due("constructors", constructors.length, 1);
        check.holds("public constructor", Modifier.isPublic(constructors[0].getModifiers()));
        check.due("its parameters", constructors[0].getParameterCount(), 0);
        for (Class<?> inside : ChangingRounds.class.getDeclaredClasses()) {
            int of = inside.getModifiers();
            check.holds(inside + " is static", Modifier.isStatic(of));
            check.holds(inside + " is hidden", !Modifier.isPublic(of) && !Modifier.isProtected(of));
        }
    }

    private static void constants() throws Exception {
        Set<String> visible = new TreeSet<>();
        for (Field field : ChangingRounds.class.getDeclaredFields()) {
            int modifiers = field.getModifiers();
            if (!Modifier.isPrivate(modifiers)) {
                visible.add(field.getName());
                check.holds(field + " is a public constant", Modifier.isPublic(modifiers)
                        && Modifier.isStatic(modifiers) && Modifier.isFinal(modifiers));
                check.holds(field + " is int", field.getType() == int.class);
                Integer want = CONSTANTS.get(field.getName());
                check.holds(field + " has its value", want != null && field.getInt(null) == want);
            }
        }
        check.holds("visible " + visible, visible.equals(CONSTANTS.keySet()));
    }

    private static void methods() {
        Map<String, Integer> wanted = new TreeMap<>();
        String[] words = METHODS.split(" ");
        for (int i = 0; i < words.length; i += 2) {
            wanted.put(words[i], Integer.parseInt(words[i + 1]));
        }
        check.due("methods of the document", wanted.size(), 30);
        Map<String, Integer> visible = new TreeMap<>();
        for (Method method : ChangingRounds.class.getDeclaredMethods()) {
            if (Modifier.isPrivate(method.getModifiers())) {
                check.holds(method + " hides no public name", !wanted.containsKey(method.getName()));
            } else {
                visible.put(method.getName(), method.getParameterCount());
                check.holds(method + " is public", Modifier.isPublic(method.getModifiers()));
                check.holds(method + " is no static one", !Modifier.isStatic(method.getModifiers()));
                check.holds(method + " answers int", method.getReturnType() == int.class);
                check.holds(method + " takes int", Arrays.stream(method.getParameterTypes())
                        .allMatch(type -> type == int.class));
            }
        }
        check.holds("visible " + visible, visible.equals(wanted));
    }
}
