import java.lang.reflect.InvocationTargetException;
import java.lang.reflect.Method;
import java.lang.reflect.Modifier;
import java.nio.file.Files;
import java.nio.file.Path;
import java.util.ArrayList;
import java.util.Comparator;
import java.util.HashSet;
import java.util.List;
import java.util.Map;
import java.util.Set;
import java.util.TreeMap;
import java.util.regex.Matcher;
import java.util.regex.Pattern;

/**
 * Runs the tests of the document's edges, one for each sentence, and holds their names against the document: the
 * words of each test stand there under its promise, and each sentence that tells an exception has a test.
 */
public final class EdgesTest {
    private static final Class<?>[] EDGES = {EdgesOfTerms.class, EdgesOfFounts.class, EdgesOfPosters.class,
        EdgesOfWhatThereIs.class, EdgesOfWhatWouldBe.class};
    private static final int PROMISES = 21;

    public static void main(String[] args) throws Exception {
        Map<Integer, String> document = sections(Files.readString(Path.of("../shared/DOC.md")));
        Map<Integer, Set<String>> tested = new TreeMap<>();
        int tests = 0;
        for (Class<?> edges : EDGES) {
            for (Method method : testsOf(edges)) {
                tests++;
                Sentence sentence = method.getAnnotation(Sentence.class);
                String words = plain(sentence.words());
                Edges.begin("promise " + sentence.promise() + ", \"" + words + "\", " + method.getName());
                if (!document.getOrDefault(sentence.promise(), "").contains(words)) {
                    Edges.fault("the document has no such words there");
                }
                tested.computeIfAbsent(sentence.promise(), none -> new HashSet<>()).add(words);
                run(method);
            }
        }
        everyRefusalIsTested(document, tested);
        System.out.println(Edges.wrong() == 0 ? "all edges hold (" + tests + " tests)" : Edges.wrong() + " wrong");
        System.exit(Edges.wrong() == 0 ? 0 : 1);
    }

    private static List<Method> testsOf(Class<?> edges) {
        List<Method> all = new ArrayList<>();
        for (Method method : edges.getDeclaredMethods()) {
            if (method.isAnnotationPresent(Sentence.class)) {
                all.add(method);
            } else if (!Modifier.isPrivate(method.getModifiers()) && !method.isSynthetic()) {
                Edges.begin(edges.getName());
                Edges.fault(method.getName() + " is neither a test with its sentence nor private");
            }
        }
        all.sort(Comparator.comparing(Method::getName));
        return all;
    }

    private static void run(Method test) throws IllegalAccessException {
        try {
            test.setAccessible(true);
            test.invoke(null);
        } catch (InvocationTargetException e) {
            Edges.fault("it was broken off by " + e.getCause());
            StackTraceElement[] trace = e.getCause().getStackTrace();
            for (int i = 0; i < Math.min(4, trace.length); i++) {
                System.out.println("    " + trace[i]);
            }
        }
    }

    private static void everyRefusalIsTested(Map<Integer, String> document, Map<Integer, Set<String>> tested) {
        for (int promise = 1; promise <= PROMISES; promise++) {
            Edges.begin("promise " + promise);
            Set<String> words = tested.getOrDefault(promise, Set.of());
            if (words.isEmpty()) {
                Edges.fault("it has no test");
            }
            Matcher refusal = Pattern.compile("Throws .*?(?= Throws |$)").matcher(document.getOrDefault(promise, ""));
            while (refusal.find()) {
                if (!words.contains(refusal.group())) {
                    Edges.fault("no test of \"" + refusal.group() + "\"");
                }
            }
        }
    }

    /** The text of each promise by its number; 0 is all that stands ahead of them. */
    private static Map<Integer, String> sections(String text) {
        Map<Integer, String> all = new TreeMap<>();
        String[] parts = text.split("(?m)^## ");
        StringBuilder ahead = new StringBuilder();
        for (String part : parts) {
            Matcher number = Pattern.compile("^Promise (\\d+): [^\n]*\n").matcher(part);
            if (number.find()) {
                all.put(Integer.parseInt(number.group(1)), plain(part.substring(number.end())));
            } else if (all.isEmpty()) {
                ahead.append(part).append(' ');
            }
        }
        all.put(0, plain(ahead.toString()));
        return all;
    }

    private static String plain(String text) {
        return text.replace("`", "").replaceAll("\\s+", " ").trim();
    }
}
