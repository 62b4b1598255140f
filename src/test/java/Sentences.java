import java.lang.reflect.InvocationTargetException;
import java.lang.reflect.Method;
import java.util.ArrayList;
import java.util.Comparator;
import java.util.List;
import java.util.regex.Matcher;
import java.util.regex.Pattern;

/** Finds and runs the tests that name a sentence, and tells the sentence of each one that fails. */
final class Sentences {
    private static final Pattern PLACE = Pattern.compile("promise\\d+|terms[A-Z][a-z]+|whatItIs");

    private Sentences() {
    }

    /** The methods come in no certain order from the machine, so they are put in the order of their names. */
    static List<Method> of(Class<?> tests) {
        List<Method> found = new ArrayList<>();
        for (Method method : tests.getDeclaredMethods()) {
            if (method.isAnnotationPresent(Sentence.class)) {
                found.add(method);
            }
        }
        found.sort(Comparator.comparing(Method::getName));
        return found;
    }

    static String textOf(Method test) {
        return test.getAnnotation(Sentence.class).value();
    }

    /** The part of the document that a test belongs to: the start of its name, as "promise3" or "termsDeeds". */
    static String placeOf(Method test) {
        Matcher place = PLACE.matcher(test.getName());
        return place.lookingAt() ? place.group() : "";
    }

    static void run(Class<?> tests) {
        List<Method> found = of(tests);
        for (Method test : found) {
            int wrong = Due.wrong();
            int asked = Due.asked();
            call(test);
            if (Due.asked() == asked) {
                Due.tell(test.getName() + " asks nothing");
            }
            if (Due.wrong() > wrong) {
                System.out.println("FAILED " + test.getName() + ": " + textOf(test));
            }
        }
        System.out.println(tests.getSimpleName() + ": " + found.size() + " tests of sentences");
        Due.end(tests.getSimpleName());
    }

    private static void call(Method test) {
        try {
            test.invoke(null);
        } catch (InvocationTargetException thrown) {
            Due.tell(test.getName() + " threw " + thrown.getCause());
        } catch (IllegalAccessException closed) {
            Due.tell(test.getName() + " cannot be called");
        }
    }
}
