import java.io.IOException;
import java.lang.reflect.InvocationTargetException;
import java.lang.reflect.Method;
import java.util.ArrayList;
import java.util.Comparator;
import java.util.List;

/** Runs the tests of a class that stand for sentences, and looks whether the sections are quoted in full. */
final class Sentences {
    private Sentences() {
    }

    static void run(Class<?> tests, String... sections) throws IOException, IllegalAccessException {
        DocText doc = new DocText();
        for (Method test : testsOf(tests, doc)) {
            Sentence sentence = test.getAnnotation(Sentence.class);
            String name = sentence.in() + " says \"" + sentence.says() + "\"";
            Check.due(name + ", so the document", doc.quote(sentence.in(), sentence.says()) ? 1 : 0, 1);
            runOne(test, name);
        }
        for (String section : sections) {
            Check.due("pieces of " + section + " without a test " + doc.unquoted(section), doc.unquoted(section).size(), 0);
        }
        Check.end(tests.getSimpleName());
    }

    /** In the document's order. */
    private static List<Method> testsOf(Class<?> tests, DocText doc) {
        List<Method> out = new ArrayList<>();
        for (Method m : tests.getDeclaredMethods()) {
            if (m.isAnnotationPresent(Sentence.class)) {
                out.add(m);
            }
        }
        out.sort(Comparator.comparing((Method m) -> placeOf(m, doc)).thenComparing(Method::getName));
        return out;
    }

    private static int placeOf(Method test, DocText doc) {
        Sentence sentence = test.getAnnotation(Sentence.class);
        return doc.placeOf(sentence.in(), sentence.says());
    }

    private static void runOne(Method test, String name) throws IllegalAccessException {
        int wrongBefore = Check.wrong();
        int askedBefore = Check.asked();
        try {
            test.invoke(null);
        } catch (InvocationTargetException e) {
            Check.due(test.getName() + " ended with " + e.getCause(), 1, 0);
        }
        if (Check.asked() == askedBefore) {
            Check.due(test.getName() + " asks something", 0, 1);
        }
        boolean failed = Check.wrong() > wrongBefore;
        System.out.println((failed ? "FAILED: " : "ok: ") + test.getName() + ": " + name);
    }
}
