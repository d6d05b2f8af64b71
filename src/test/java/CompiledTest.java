import java.io.PrintWriter;
import java.io.StringWriter;
import java.lang.reflect.Array;
import java.lang.reflect.Field;
import java.lang.reflect.Modifier;
import java.util.ArrayList;
import java.util.Arrays;
import java.util.Collections;
import java.util.HashMap;
import java.util.IdentityHashMap;
import java.util.LinkedHashSet;
import java.util.List;
import java.util.Map;
import java.util.Set;
import java.util.regex.Matcher;
import java.util.regex.Pattern;
import java.util.spi.ToolProvider;

/** What of LANGUAGE.md, and of the room that a run has, can be seen from the compiled class and its objects. */
public final class CompiledTest {
    private static final List<String> LIBRARY = Arrays.asList("java/lang/Integer.bitCount",
            "java/lang/Long.numberOfLeadingZeros", "java/lang/Math.max", "java/lang/Math.min", "java/lang/Object.<init>",
            "java/lang/String.indexOf", "java/lang/System.arraycopy", "java/util/NoSuchElementException.<init>");
    private static final List<Class<?>> CONSTANTS = Arrays.asList(int.class, long.class, boolean.class, char.class,
            String.class, int[].class, long[].class, char[].class, byte[].class);
    private static final int DEEPEST = 8;
    private static final int MOST_FIELDS = 20;
    /** A thousand and more objects of the class in one run stay far below what a run's room has. */
    private static final int MOST_OBJECTS = 100;
    private static final int MOST_ELEMENTS = 3000;

    private static final Pattern CLASS = Pattern.compile("^(?:\\w+ )*class (LongRuns[\\w$]*)");
    private static final Pattern METHOD = Pattern.compile("^  (?:\\S.* )?([\\w$]+)\\((.*)\\)[^()]*;$|^  static \\{\\};$");
    private static final Pattern DESCRIBED = Pattern.compile("^    descriptor: (\\S+)$");
    private static final Pattern STEP = Pattern.compile("^ +\\d+: ([a-z]\\w*)");
    private static final Pattern CALLED = Pattern.compile("// Method (?:([\\w$/]+)\\.)?\"?([\\w<>]+)\"?:(\\S+)");

    private static final Map<String, Set<String>> CALLS = new HashMap<>();
    private static int wrong = 0;

    public static void main(String[] args) throws IllegalAccessException {
        List<Class<?>> classes = new ArrayList<>(Arrays.asList(LongRuns.class.getDeclaredClasses()));
        classes.add(LongRuns.class);
        for (Class<?> one : classes) {
            lookAtFields(one);
            lookAtSteps(one.getName());
        }
        due("methods were found: " + CALLS.size(), CALLS.size() > 100);
        for (String method : CALLS.keySet()) {
            List<String> way = deepest(method, new ArrayList<>());
            due("calls go no deeper than " + DEEPEST + ": " + way, way.size() <= DEEPEST);
        }
        lookAtRoom();
        if (wrong != 0) {
            System.exit(1);
        }
        System.out.println("the compiled class is as due");
    }

    private static void lookAtFields(Class<?> one) {
        int own = 0;
        for (Field field : one.getDeclaredFields()) {
            if (Modifier.isStatic(field.getModifiers())) {
                due(field + " is a constant", Modifier.isFinal(field.getModifiers()) && CONSTANTS.contains(field.getType()));
            } else {
                own++;
            }
        }
        due(one + " has few fields: " + own, own <= MOST_FIELDS);
    }

    private static void lookAtSteps(String name) {
        StringWriter told = new StringWriter();
        PrintWriter writer = new PrintWriter(told);
        ToolProvider.findFirst("javap").orElseThrow().run(writer, writer, "-c", "-p", "-s", "-cp",
                System.getProperty("java.class.path"), name);
        writer.flush();
        String method = "";
        String bare = "";
        for (String row : told.toString().split("\n")) {
            Matcher head = METHOD.matcher(row);
            Matcher described = DESCRIBED.matcher(row);
            Matcher step = STEP.matcher(row);
            if (head.find()) {
                bare = head.group(1) == null ? "<clinit>" : head.group(1).equals(name) ? "<init>" : head.group(1);
            } else if (described.find() && described.group(1).startsWith("(")) {
                method = name + "." + bare + described.group(1);
                CALLS.put(method, new LinkedHashSet<>());
            } else if (step.find() && !method.isEmpty()) {
                lookAtStep(name, method, bare, step.group(1), row);
            }
            due("nothing is caught in " + method, !row.contains("Exception table:"));
        }
    }

    private static void lookAtStep(String name, String method, String bare, String step, String row) {
        due(method + " has no " + step, !Arrays.asList("invokedynamic", "invokeinterface", "checkcast", "monitorenter",
                "multianewarray", "putstatic").contains(step) || step.equals("putstatic") && bare.equals("<clinit>"));
        boolean isMade = step.equals("new") || step.endsWith("newarray");
        boolean mayMake = bare.equals("<init>") || bare.equals("<clinit>") || row.contains("java/util/NoSuchElementException");
        due(method + " makes nothing: " + row.trim(), !isMade || mayMake);
        Matcher called = CALLED.matcher(row);
        if (!called.find()) {
            return;
        }
        String owner = called.group(1) == null ? name : called.group(1);
        if (owner.startsWith("LongRuns")) {
            CALLS.get(method).add(owner + "." + called.group(2) + called.group(3));
        } else {
            due(method + " calls " + owner + "." + called.group(2), LIBRARY.contains(owner + "." + called.group(2)));
        }
    }

    /** The longest chain of calls from a method on, itself too; a method that comes twice ends it. */
    private static List<String> deepest(String method, List<String> open) {
        due("no method calls itself: " + method, !open.contains(method));
        due("it is known: " + method, CALLS.containsKey(method));
        List<String> longest = Collections.emptyList();
        if (!open.contains(method)) {
            open.add(method);
            for (String called : CALLS.getOrDefault(method, Collections.emptySet())) {
                List<String> way = deepest(called, open);
                longest = way.size() > longest.size() ? way : longest;
            }
            open.remove(open.size() - 1);
        }
        List<String> whole = new ArrayList<>(longest);
        whole.add(0, method);
        return whole;
    }

    private static void lookAtRoom() throws IllegalAccessException {
        Set<Object> seen = Collections.newSetFromMap(new IdentityHashMap<>());
        int elements = elementsOf(new LongRuns(), seen);
        due("objects and arrays of one object: " + seen.size(), seen.size() > 1 && seen.size() <= MOST_OBJECTS);
        due("fields and elements of one object: " + elements, elements <= MOST_ELEMENTS);
    }

    private static int elementsOf(Object object, Set<Object> seen) throws IllegalAccessException {
        if (object == null || !seen.add(object)) {
            return 0;
        }
        int found = 0;
        if (object.getClass().isArray()) {
            found = Array.getLength(object);
            for (int k = 0; object instanceof Object[] && k < Array.getLength(object); k++) {
                found += elementsOf(Array.get(object, k), seen);
            }
            return found;
        }
        for (Field field : object.getClass().getDeclaredFields()) {
            if (!Modifier.isStatic(field.getModifiers())) {
                found++;
                field.setAccessible(true);
                found += field.getType().isPrimitive() ? 0 : elementsOf(field.get(object), seen);
            }
        }
        return found;
    }

    private static void due(String what, boolean holds) {
        if (!holds) {
            wrong++;
            System.out.println("not as due: " + what);
        }
    }
}
