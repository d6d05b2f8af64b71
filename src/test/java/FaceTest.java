import java.lang.reflect.Constructor;
import java.lang.reflect.Field;
import java.lang.reflect.Method;
import java.lang.reflect.Modifier;
import java.util.Arrays;
import java.util.TreeSet;

/** The class has the document's face, and nothing else of it can be seen. */
public final class FaceTest {
    private static final String[] FACE = {
        "int sign(int)", "boolean end(int)", "int table()", "int sheet(int,int,int,int,int,int)",
        "int put(int,int,int,int)", "int take(int,int,int)", "int length(int)", "int kind(int)",
        "int copies(int,int)", "int carries(int,int,int,int,int)", "int ways(int)", "int same(int,int)",
        "int runs(int)", "int all()", "int unlike(int,int)", "int rank(int,int)", "int least()", "int bound()",
        "int coded(int)", "int alike(int,int)", "int sorts(boolean)", "int fewest()", "int best(boolean)",
        "int tours(int)", "int swaps(int,int)", "int moves(int,int)", "int bestSwap()", "int place(int)",
        "int restores()", "int tagged(int)", "int day()", "int undo()", "int years(int,int,int)",
        "boolean keep(int)", "boolean again(int)", "int count(int)", "long answer(int)",
    };

    private static int wrong = 0;

    public static void main(String[] args) {
        Class<?> face = LongRuns.class;
        due("public final", Modifier.isPublic(face.getModifiers()) && Modifier.isFinal(face.getModifiers()));
        due("no package", face.getPackageName().isEmpty());
        TreeSet<String> seen = new TreeSet<>();
        TreeSet<String> names = new TreeSet<>();
        for (Method method : face.getDeclaredMethods()) {
            if (Modifier.isPrivate(method.getModifiers())) {
                continue;
            }
            due(method + " is public", Modifier.isPublic(method.getModifiers()) && !Modifier.isStatic(method.getModifiers()));
            seen.add(written(method));
            names.add(method.getName());
        }
        TreeSet<String> promised = new TreeSet<>(Arrays.asList(FACE));
        due("methods: " + seen, seen.equals(promised));
        Constructor<?>[] constructors = face.getDeclaredConstructors();
        due("one constructor", constructors.length == 1 && Modifier.isPublic(constructors[0].getModifiers())
                && constructors[0].getParameterCount() == 0);
        for (Field field : face.getDeclaredFields()) {
            due(field + " is private", Modifier.isPrivate(field.getModifiers()) || field.getName().equals("NONE"));
        }
        due("NONE", LongRuns.NONE == -1);
        lookInside(face, names);
        if (wrong != 0) {
            System.exit(1);
        }
        System.out.println("the face is as due");
    }

    private static void lookInside(Class<?> face, TreeSet<String> names) {
        for (Method method : face.getDeclaredMethods()) {
            due(method + " bears no public name", !Modifier.isPrivate(method.getModifiers()) || !names.contains(method.getName()));
        }
        for (Class<?> inside : face.getDeclaredClasses()) {
            due(inside + " is static", Modifier.isStatic(inside.getModifiers()) && !Modifier.isPublic(inside.getModifiers()));
            for (Method method : inside.getDeclaredMethods()) {
                due(method + " bears no public name", !names.contains(method.getName()));
            }
            for (Field field : inside.getDeclaredFields()) {
                due(field + " is final, if static", !Modifier.isStatic(field.getModifiers()) || Modifier.isFinal(field.getModifiers()));
            }
        }
        due("at most twelve classes", face.getDeclaredClasses().length < 12);
    }

    private static String written(Method method) {
        StringBuilder text = new StringBuilder(method.getReturnType().getName());
        text.append(' ').append(method.getName()).append('(');
        for (int k = 0; k < method.getParameterCount(); k++) {
            text.append(k == 0 ? "" : ",").append(method.getParameterTypes()[k].getName());
        }
        return text.append(')').toString();
    }

    private static void due(String what, boolean holds) {
        if (!holds) {
            wrong++;
            System.out.println("not as due: " + what);
        }
    }
}
