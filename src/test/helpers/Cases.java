import java.io.IOException;
import java.lang.reflect.InvocationTargetException;
import java.lang.reflect.Method;
import java.nio.file.Files;
import java.nio.file.Path;
import java.util.ArrayList;
import java.util.Comparator;
import java.util.List;

/** Runs the methods of a class that are marked as a Case, and sees that the document says what they quote. */
final class Cases {
    /** The sentence of the document that many promises share. */
    static final String FIRST_NAMED =
            "If several exceptions apply, the one that is named first in the throws clause is thrown.";

    private Cases() {
    }

    static void run(Class<?> tests, int firstPromise, int lastPromise) throws IOException, IllegalAccessException {
        String document = Files.readString(Path.of("../shared/DOC.md")).replaceAll("\\s+", " ");
        int failed = 0;
        List<Method> cases = casesOf(tests);
        for (Method one : cases) {
            failed += holds(one, document) ? 0 : 1;
        }
        for (int promise = firstPromise; promise <= lastPromise; promise++) {
            int number = promise;
            if (cases.stream().noneMatch(one -> one.getAnnotation(Case.class).promise() == number)) {
                System.out.println("promise " + promise + " has no case");
                failed++;
            }
        }
        System.out.println(tests.getSimpleName() + ": " + cases.size() + " cases, " + failed + " do not hold");
        if (failed != 0) {
            System.exit(1);
        }
    }

    private static List<Method> casesOf(Class<?> tests) {
        List<Method> cases = new ArrayList<>();
        for (Method one : tests.getDeclaredMethods()) {
            if (one.isAnnotationPresent(Case.class)) {
                cases.add(one);
            }
        }
        cases.sort(Comparator.comparingInt((Method one) -> one.getAnnotation(Case.class).promise())
                .thenComparing(Method::getName));
        return cases;
    }

    private static boolean holds(Method one, String document) throws IllegalAccessException {
        Case told = one.getAnnotation(Case.class);
        int before = Checks.wrongSoFar();
        if (!document.contains(told.says())) {
            Checks.tellWrong("the document does not say: " + told.says());
        }
        try {
            one.invoke(null);
        } catch (InvocationTargetException e) {
            Checks.tellWrong("threw " + e.getCause());
        }
        boolean well = Checks.wrongSoFar() == before;
        if (!well) {
            System.out.println("  in " + one.getName() + ", promise " + told.promise() + ": " + told.says());
        }
        return well;
    }
}
