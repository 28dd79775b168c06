import java.io.IOException;
import java.lang.reflect.Field;
import java.lang.reflect.Modifier;
import java.util.ArrayList;
import java.util.List;
import java.util.Map;
import java.util.Set;
import java.util.TreeMap;
import java.util.TreeSet;

/** Rules of ../shared/LANGUAGE.md that can be seen in the compiled class, each under its number. */
public final class LanguageTest {
    private static final int MOST_LINES = 60;
    private static final int MOST_DEPTH = 8;
    private static final int MOST_PARAMETERS = 7;
    private static final int MOST_CLASSES = 12;
    private static final int MOST_FIELDS = 20;

    private static final int PUT_STATIC = 179;
    private static final int DYNAMIC = 186;
    private static final int THROW = 191;
    private static final int MONITOR_ENTER = 194;
    private static final int MONITOR_EXIT = 195;
    /** The operations that make an object or an array. */
    private static final int[] MAKING = {187, 188, 189, 197};

    /** Of what rule 4 lists, all that this class has need of. */
    private static final Set<String> LIBRARY = Set.of(
            "java/lang/Object.<init> ()V", "java/lang/String.length ()I", "java/lang/String.charAt (I)C",
            "java/lang/Integer.bitCount (I)I", "java/lang/Math.max (II)I", "java/lang/Math.min (II)I",
            "java/lang/System.arraycopy (Ljava/lang/Object;ILjava/lang/Object;II)V");
    private static final Set<Class<?>> FIXED = Set.of(
            int.class, long.class, boolean.class, char.class, String.class, int[].class, long[].class, char[].class,
            byte[].class);
    /** The only method that calls itself; it carries its depth. */
    private static final String SEARCH = "BorderHarp$Tuner.tuneRest (II)Z";

    private final List<Class<?>> classes = new ArrayList<>();
    private final Map<String, Bytecode.Body> bodies = new TreeMap<>();

    private LanguageTest() throws IOException {
        classes.add(BorderHarp.class);
        classes.addAll(List.of(BorderHarp.class.getDeclaredClasses()));
        for (Class<?> one : classes) {
            for (Bytecode.Body body : Bytecode.of(one)) {
                bodies.put(body.told(), body);
            }
        }
    }

    public static void main(String[] args) throws IOException {
        LanguageTest test = new LanguageTest();
        test.names();
        test.classesInside();
        test.fieldTypes();
        test.library();
        test.staticFields();
        test.nothingThrown();
        test.recursion();
        test.sizes();
        test.depth();
        test.making();
        Due.end();
    }

    private static void holds(String what, boolean is) {
        Due.due(what, is ? 1 : 0, 1);
    }

    /** Rule 1: "No private method bears the name of a public one", inside the classes as well. */
    private void names() {
        TreeSet<String> open = new TreeSet<>();
        for (var method : BorderHarp.class.getDeclaredMethods()) {
            if (Modifier.isPublic(method.getModifiers())) {
                open.add(method.getName());
            }
        }
        for (Class<?> one : classes) {
            for (var method : one.getDeclaredMethods()) {
                holds("rule 1: " + one.getName() + "." + method.getName() + " has a name of its own",
                        Modifier.isPublic(method.getModifiers()) || !open.contains(method.getName()));
                holds("rule 1: " + method.getName() + " is not made by the compiler", !method.isSynthetic());
            }
        }
    }

    /** Rule 2: static ones alone, none local, none without a name. */
    private void classesInside() {
        for (Class<?> one : classes) {
            holds("rule 2: " + one.getName() + " is a member", !one.isLocalClass() && !one.isAnonymousClass());
            holds("rule 2: " + one.getName() + " has no class inside",
                    one == BorderHarp.class || one.getDeclaredClasses().length == 0);
        }
        holds("rule 2: no class without a name", BorderHarp.class.getResource("/BorderHarp$1.class") == null);
    }

    /** Rule 3: arrays of one dimension, and of two of numbers; no type of the library but String. */
    private void fieldTypes() {
        for (Class<?> one : classes) {
            for (Field field : one.getDeclaredFields()) {
                Class<?> type = field.getType();
                Class<?> row = type.isArray() ? type.getComponentType() : type;
                Class<?> part = row.isArray() ? row.getComponentType() : row;
                boolean own = part.isPrimitive() || classes.contains(part) && !row.isArray();
                holds("rule 3: the type of " + field, own || type == String.class);
            }
        }
    }

    /** Rules 4 and 13: no call but to the class itself and to this little of the library. */
    private void library() {
        for (Bytecode.Body body : bodies.values()) {
            for (String call : body.calls) {
                holds("rule 4: " + call + " by " + body.told(), bodies.containsKey(call) || LIBRARY.contains(call));
            }
        }
    }

    /** Rule 5: "Static fields are final", and of these types. */
    private void staticFields() {
        for (Class<?> one : classes) {
            for (Field field : one.getDeclaredFields()) {
                if (Modifier.isStatic(field.getModifiers())) {
                    holds("rule 5: " + field + " is final", Modifier.isFinal(field.getModifiers()));
                    holds("rule 5: the type of " + field, FIXED.contains(field.getType()));
                }
            }
        }
        for (Bytecode.Body body : bodies.values()) {
            holds("rule 5: " + body.told() + " sets no static field",
                    body.name.equals("<clinit>") || !body.operations.contains(PUT_STATIC));
        }
    }

    /** Rules 2, 6 and 10: no throw, catch, synchronized, lambda, nor texts joined by +. */
    private void nothingThrown() {
        for (Bytecode.Body body : bodies.values()) {
            holds("rule 6: " + body.told() + " catches nothing", body.handlers == 0);
            for (int operation : new int[] {THROW, MONITOR_ENTER, MONITOR_EXIT, DYNAMIC}) {
                holds("rule 6: operation " + operation + " in " + body.told(), !body.operations.contains(operation));
            }
        }
    }

    /** Rule 8: none calls itself, by others or straight, but the search that carries its depth. */
    private void recursion() {
        for (Bytecode.Body body : bodies.values()) {
            TreeSet<String> reached = new TreeSet<>();
            reach(body, reached);
            holds("rule 8: " + body.told() + " calls itself",
                    reached.contains(body.told()) == body.told().equals(SEARCH));
        }
    }

    private void reach(Bytecode.Body body, TreeSet<String> reached) {
        for (String call : body.calls) {
            if (bodies.containsKey(call) && reached.add(call)) {
                reach(bodies.get(call), reached);
            }
        }
    }

    /** Rule 11: parameters, lines, classes, fields beside the constants. */
    private void sizes() {
        holds("rule 11: some twelve classes", classes.size() <= MOST_CLASSES);
        for (Class<?> one : classes) {
            int fields = 0;
            for (Field field : one.getDeclaredFields()) {
                fields += Modifier.isStatic(field.getModifiers()) ? 0 : 1;
            }
            holds("rule 11: fields of " + one.getName(), fields <= MOST_FIELDS);
            for (var method : one.getDeclaredMethods()) {
                holds("rule 11: parameters of " + method, method.getParameterCount() <= MOST_PARAMETERS);
            }
        }
        for (Bytecode.Body body : bodies.values()) {
            // The fields' initialisers stand among a constructor's lines.
            boolean made = body.name.equals("<init>") || body.name.equals("<clinit>");
            holds("rule 11: lines of " + body.told(), made || body.lastLine - body.firstLine < MOST_LINES);
        }
    }

    /** Rule 11: "calls that are no recursion go at most eight deep", the library's among them. */
    private void depth() {
        for (Bytecode.Body body : bodies.values()) {
            int deep = depthOf(body);
            holds("rule 11: " + body.told() + " goes " + deep + " deep", deep <= MOST_DEPTH);
        }
    }

    private int depthOf(Bytecode.Body body) {
        int deepest = 0;
        for (String call : body.calls) {
            if (!call.equals(body.told())) {
                deepest = Math.max(deepest, bodies.containsKey(call) ? depthOf(bodies.get(call)) : 1);
            }
        }
        return deepest + 1;
    }

    /** Rule 12: objects are made as a new object is made, and by no call. */
    private void making() {
        for (Bytecode.Body body : bodies.values()) {
            for (int operation : MAKING) {
                holds("rule 12: " + body.told() + " makes nothing",
                        body.name.equals("<init>") || body.name.equals("<clinit>") || !body.operations.contains(operation));
            }
        }
    }
}
