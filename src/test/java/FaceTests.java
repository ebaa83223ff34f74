import java.io.IOException;
import java.lang.management.ManagementFactory;
import java.lang.reflect.Constructor;
import java.lang.reflect.Field;
import java.lang.reflect.Method;
import java.lang.reflect.Modifier;
import java.nio.file.Files;
import java.nio.file.Path;
import java.util.ArrayList;
import java.util.Arrays;
import java.util.List;
import java.util.TreeSet;
import java.util.regex.Matcher;
import java.util.regex.Pattern;
import java.util.stream.Collectors;

/** The face of the class, what can be checked of ../shared/LANGUAGE.md by machine, and the room that a run takes. */
public final class FaceTests {
    private static final String[] FACE = {
        "int call(int) IndexOutOfBoundsException IllegalStateException",
        "int callOften(int int int) IndexOutOfBoundsException IllegalArgumentException",
        "int callHealthiest() IllegalStateException",
        "int close(int) IndexOutOfBoundsException",
        "int set(int int) IndexOutOfBoundsException IllegalArgumentException",
        "int pass(int) IllegalArgumentException",
        "int append(int) IllegalArgumentException IllegalStateException",
        "int clearBuffer()",
        "int firstError()",
        "int delays(int) IndexOutOfBoundsException IllegalArgumentException",
        "int undo() IllegalStateException",
        "int store(int int) IndexOutOfBoundsException IllegalArgumentException",
        "int delay(int int) IndexOutOfBoundsException IllegalArgumentException",
        "int onWay(int int) IllegalArgumentException",
        "int count(int) IllegalArgumentException",
        "int setting(int) IndexOutOfBoundsException",
        "int ifCalled(int int int int) IndexOutOfBoundsException IllegalArgumentException",
        "int freeIn(int) IndexOutOfBoundsException",
        "int healthiest()",
        "double health()",
        "long digest()",
    };

    private static final String[] LIBRARY = {"System.arraycopy", "Arrays.copyOf", "Arrays.copyOfRange", "Arrays.fill",
        "Integer.bitCount", "Math.min", "Math.max"};

    private static final String[] RULED_OUT = {"->", "::", "package ", "try ", "catch ", "finally", "synchronized",
        "assert ", "instanceof", "Double.", "Float.", "System.out", "System.nanoTime", "Random", "import static"};

    private static final List<Class<?>> CONSTANTS = List.of(int.class, long.class, boolean.class, char.class,
        String.class, int[].class, long[].class, char[].class, byte[].class);

    private static int wrong;

    private static void due(String what, Object got, Object want) {
        if (!got.equals(want)) {
            wrong++;
            System.out.println(what + " is " + got + ", due is " + want);
        }
    }

    private static String told(Method method) {
        String parameters = Arrays.stream(method.getParameterTypes()).map(Class::getSimpleName)
                .collect(Collectors.joining(" ", "(", ")"));
        String thrown = Arrays.stream(method.getExceptionTypes()).map(c -> " " + c.getSimpleName())
                .collect(Collectors.joining());
        return method.getReturnType().getSimpleName() + " " + method.getName() + parameters + thrown;
    }

    private static void face() throws IllegalAccessException {
        Class<?> face = BreakerTrials.class;
        due("modifiers", Modifier.toString(face.getModifiers()), "public final");
        TreeSet<String> open = new TreeSet<>();
        TreeSet<String> names = new TreeSet<>();
        for (Method method : face.getDeclaredMethods()) {
            if (!Modifier.isPrivate(method.getModifiers())) {
                open.add((Modifier.toString(method.getModifiers()) + " " + told(method)).replaceFirst("^public ", ""));
                names.add(method.getName());
            }
        }
        due("the open methods", open, new TreeSet<>(List.of(FACE)));
        for (Class<?> inner : face.getDeclaredClasses()) {
            due(inner + " is static and not public", Modifier.isStatic(inner.getModifiers())
                    && !Modifier.isPublic(inner.getModifiers()), true);
            for (Method method : inner.getDeclaredMethods()) {
                due(method + " bears the name of a public one", names.contains(method.getName()), false);
            }
        }
        for (Method method : face.getDeclaredMethods()) {
            if (Modifier.isPrivate(method.getModifiers())) {
                due(method + " bears the name of a public one", names.contains(method.getName()), false);
            }
        }
        List<String> fields = new ArrayList<>();
        for (Field field : face.getDeclaredFields()) {
            if (!Modifier.isPrivate(field.getModifiers())) {
                fields.add(Modifier.toString(field.getModifiers()) + " " + field.getName());
            }
        }
        due("the open fields", fields, List.of("public static final NONE"));
        Constructor<?>[] made = face.getDeclaredConstructors();
        due("constructors", made.length, 1);
        due("constructor", Modifier.toString(made[0].getModifiers()) + made[0].getParameterCount(), "public0");
    }

    private static void sizes() {
        List<Class<?>> all = new ArrayList<>(List.of(BreakerTrials.class.getDeclaredClasses()));
        all.add(BreakerTrials.class);
        due("at most 12 classes", all.size() <= 12, true);
        for (Class<?> one : all) {
            int fields = 0;
            for (Field field : one.getDeclaredFields()) {
                boolean constant = Modifier.isStatic(field.getModifiers());
                due(field + " is final or not static", !constant || Modifier.isFinal(field.getModifiers()), true);
                due(field + " is a constant of a listed kind", !constant || CONSTANTS.contains(field.getType()), true);
                fields += constant ? 0 : 1;
            }
            due(one + " has at most 20 fields", fields <= 20, true);
            for (Method method : one.getDeclaredMethods()) {
                due(method + " takes at most 7", method.getParameterCount() <= 7, true);
            }
        }
    }

    private static void language() throws IOException {
        String source = Files.readString(Path.of("src/main/java/BreakerTrials.java"));
        due("the source is ASCII", source.chars().allMatch(c -> c == '\n' || c >= 32 && c < 127), true);
        String code = source.replaceAll("//[^\n]*", "").replaceAll("(?s)/\\*.*?\\*/", "")
                .replaceAll("\"[^\"]*\"", "\"\"");
        for (String word : RULED_OUT) {
            due("has " + word, code.contains(word), false);
        }
        Matcher library = Pattern.compile("\\b(System|Arrays|Integer|Long|Math)\\.\\w+").matcher(code);
        while (library.find()) {
            due(library.group() + " is listed", List.of(LIBRARY).contains(library.group()), true);
        }
        Matcher imports = Pattern.compile("import ([^;]*);").matcher(code);
        while (imports.find()) {
            due("import", imports.group(1), "java.util.Arrays");
        }
        Matcher thrown = Pattern.compile("throw new (\\w+)\\(([^)]*)\\)").matcher(code);
        while (thrown.find()) {
            due("throws " + thrown.group(1), thrown.group(1).matches("IllegalStateException"
                    + "|IllegalArgumentException|IndexOutOfBoundsException") && thrown.group(2).matches("|\"\""), true);
        }
        due("every throw is throw new", code.split("\\bthrow\\b", -1).length,
                code.split("\\bthrow new\\b", -1).length);
    }

    /** A run's calls share one room: once the object stands, its calls make nothing. */
    private static void room() {
        if (!(ManagementFactory.getThreadMXBean() instanceof com.sun.management.ThreadMXBean threads)) {
            return;
        }
        long id = Thread.currentThread().getId();
        runOfDearCalls(new BreakerTrials());
        BreakerTrials x = new BreakerTrials();
        long before = threads.getThreadAllocatedBytes(id);
        runOfDearCalls(x);
        long bytes = threads.getThreadAllocatedBytes(id) - before;
        due("512 calls make next to nothing", bytes < 20_000, true);
    }

    private static void runOfDearCalls(BreakerTrials x) {
        for (int i = 0; i < 128; i++) {
            x.callOften(i % 4, 5, i % 3);
            x.digest();
            x.ifCalled(i % 4, 50, 2, i % 4);
            x.set(0, 1 + i % 9);
        }
    }

    public static void main(String[] args) throws Exception {
        face();
        sizes();
        language();
        room();
        System.out.println(wrong == 0 ? "the face is as due" : wrong + " things are not as due");
        if (wrong != 0) {
            System.exit(1);
        }
    }
}
