import java.lang.reflect.InvocationTargetException;
import java.lang.reflect.Method;
import java.lang.reflect.Modifier;
import java.nio.file.Files;
import java.nio.file.Path;
import java.util.ArrayList;
import java.util.Comparator;
import java.util.HashSet;
import java.util.List;
import java.util.Map;
import java.util.Set;
import java.util.TreeMap;
import java.util.regex.Matcher;
import java.util.regex.Pattern;

/**
 * Runs the tests of the document's sentences, and holds what they bear against the document: the words of each
 * test stand there under its promise, each sentence that tells an exception has a test, and no words are left over
 * that no test bears.
 */
public final class EdgesTest {
    private static final Class<?>[] EDGES = {EdgesOfTerms.class, EdgesOfFounts.class, EdgesOfPosters.class,
        EdgesOfWhatThereIs.class, EdgesOfWhatWouldBe.class};
    private static final int PROMISES = 21;

    /** What says nothing that a call could break, and what FaceTest holds: the face, and each promise's signature. */
    private static final String[] NOT_OF_CALLS = {
        "# PosterTypes What it is A shop with wooden type for posters\\.",
        "what later calls answer is free\\.",
        "The public face public final class PosterTypes \\{.*?\\} Terms",
        "Ahead of the calls [\\w, ]+ the interface says: ---- [a-z ]+\\.",
        "^[\\w ]*\\([\\w, ]*\\)( throws [\\w, ]+)?:"
    };

    public static void main(String[] args) throws Exception {
        Map<Integer, String> document = sections(Files.readString(Path.of("../shared/DOC.md")));
        Map<Integer, Set<String>> tested = new TreeMap<>();
        int tests = 0;
        for (Class<?> edges : EDGES) {
            for (Method method : testsOf(edges)) {
                tests++;
                Sentence sentence = method.getAnnotation(Sentence.class);
                Edges.begin("promise " + sentence.promise() + ", \"" + sentence.words()[0] + "\", " + method.getName());
                for (String words : sentence.words()) {
                    if (!document.getOrDefault(sentence.promise(), "").contains(words)) {
                        Edges.fault("the document has no such words there: \"" + words + "\"");
                    }
                    tested.computeIfAbsent(sentence.promise(), none -> new HashSet<>()).add(words);
                }
                run(method);
            }
        }
        for (int promise = 0; promise <= PROMISES; promise++) {
            Edges.begin("promise " + promise);
            Set<String> words = tested.getOrDefault(promise, Set.of());
            everyRefusalIsTested(document.getOrDefault(promise, ""), words);
            everyWordIsTested(document.getOrDefault(promise, ""), words);
        }
        System.out.println(Edges.wrong() == 0 ? "all edges hold (" + tests + " tests)" : Edges.wrong() + " wrong");
        System.exit(Edges.wrong() == 0 ? 0 : 1);
    }

    private static List<Method> testsOf(Class<?> edges) {
        List<Method> all = new ArrayList<>();
        for (Method method : edges.getDeclaredMethods()) {
            if (method.isAnnotationPresent(Sentence.class)) {
                all.add(method);
            } else if (!Modifier.isPrivate(method.getModifiers()) && !method.isSynthetic()) {
                Edges.begin(edges.getName());
                Edges.fault(method.getName() + " is neither a test with its sentence nor private");
            }
        }
        all.sort(Comparator.comparing(Method::getName));
        return all;
    }

    private static void run(Method test) throws IllegalAccessException {
        try {
            test.setAccessible(true);
            test.invoke(null);
        } catch (InvocationTargetException e) {
            Edges.fault("it was broken off by " + e.getCause());
            StackTraceElement[] trace = e.getCause().getStackTrace();
            for (int i = 0; i < Math.min(4, trace.length); i++) {
                System.out.println("    " + trace[i]);
            }
        }
    }

    private static void everyRefusalIsTested(String text, Set<String> tested) {
        if (text.isEmpty() || tested.isEmpty()) {
            Edges.fault("the document does not have it, or it has no test");
        }
        Matcher refusal = Pattern.compile("Throws .*?(?= Throws |$)").matcher(text);
        while (refusal.find()) {
            if (!tested.contains(refusal.group())) {
                Edges.fault("no test of \"" + refusal.group() + "\"");
            }
        }
    }

    private static void everyWordIsTested(String text, Set<String> tested) {
        boolean[] isBorne = new boolean[text.length()];
        for (String words : tested) {
            bear(isBorne, Pattern.compile(Pattern.quote(words)).matcher(text));
        }
        for (String other : NOT_OF_CALLS) {
            bear(isBorne, Pattern.compile(other).matcher(text));
        }
        StringBuilder left = new StringBuilder();
        for (int i = 0; i < text.length(); i++) {
            left.append(isBorne[i] ? ' ' : text.charAt(i));
        }
        Matcher words = Pattern.compile("\\w[^ ]*( [^ ]+)*").matcher(left);
        while (words.find()) {
            Edges.fault("no test of \"" + words.group() + "\"");
        }
    }

    private static void bear(boolean[] isBorne, Matcher found) {
        while (found.find()) {
            for (int i = found.start(); i < found.end(); i++) {
                isBorne[i] = true;
            }
        }
    }

    /** The text of each promise by its number; 0 is all that stands ahead of them. */
    private static Map<Integer, String> sections(String text) {
        Map<Integer, String> all = new TreeMap<>();
        String[] parts = text.split("(?m)^## ");
        StringBuilder ahead = new StringBuilder();
        for (String part : parts) {
            Matcher number = Pattern.compile("^Promise (\\d+): [^\n]*\n").matcher(part);
            if (number.find()) {
                all.put(Integer.parseInt(number.group(1)), plain(part.substring(number.end())));
            } else if (all.isEmpty()) {
                ahead.append(part).append(' ');
            }
        }
        all.put(0, plain(ahead.toString()));
        return all;
    }

    private static String plain(String text) {
        return text.replaceAll("```\\w*", "").replace("`", "").replaceAll("\\s+", " ").trim();
    }
}
