import java.io.IOException;
import java.lang.reflect.InvocationTargetException;
import java.lang.reflect.Method;
import java.nio.file.Files;
import java.nio.file.Path;
import java.util.ArrayList;
import java.util.HashMap;
import java.util.List;
import java.util.Map;
import java.util.Set;
import java.util.TreeSet;
import java.util.regex.Matcher;
import java.util.regex.Pattern;
import java.util.stream.Stream;

/** What README.md says of the class and of its tests is true. */
public final class ReadmeTest {
    private static final String[] EXCEPTIONS = {"IndexOutOfBoundsException", "IllegalArgumentException",
        "IllegalStateException"};

    private static int wrong = 0;

    public static void main(String[] args) throws Exception {
        String page = Files.readString(Path.of("README.md"));
        example(page);
        table(page, Files.readString(Path.of("../shared/DOC.md")));
        tests(page);
        System.out.println(wrong == 0 ? "README.md is true" : wrong + " wrong");
        System.exit(wrong == 0 ? 0 : 1);
    }

    private static void fault(String text) {
        wrong++;
        System.out.println("README.md: " + text);
    }

    private static void due(String of, Object want, Object got) {
        if (!want.equals(got)) {
            fault(of + " is " + got + ", due is " + want);
        }
    }

    // ---- the example

    /** Each line of the example is a call, and ahead of the first ":" of its comment stands what is answered. */
    private static void example(String page) throws IllegalAccessException {
        Matcher block = Pattern.compile("```java\n(.*?)```", Pattern.DOTALL).matcher(page);
        String[] lines = block.find() ? block.group(1).split("\n") : new String[] {""};
        due("the first line of the example", "PosterTypes shop = new PosterTypes();", lines[0]);
        PosterTypes shop = new PosterTypes();
        Map<String, Integer> variables = new HashMap<>();
        Pattern form = Pattern.compile("(?:int (\\w+) = )?shop\\.(\\w+)\\((.*?)\\); +// ([^:]+): .*");
        for (int i = 1; i < lines.length; i++) {
            Matcher line = form.matcher(lines[i]);
            if (!line.matches()) {
                fault("a line of the example that is no call with its answer: " + lines[i]);
                continue;
            }
            String answer = answer(shop, line.group(2), arguments(line.group(3), variables));
            due(lines[i], answer, line.group(4));
            if (line.group(1) != null) {
                variables.put(line.group(1), Integer.parseInt(answer));
            }
        }
    }

    private static Object[] arguments(String text, Map<String, Integer> variables) {
        List<Object> all = new ArrayList<>();
        for (String one : text.isEmpty() ? new String[0] : text.split(", ")) {
            all.add(variables.containsKey(one) ? variables.get(one) : Integer.valueOf(one));
        }
        return all.toArray();
    }

    private static String answer(PosterTypes shop, String call, Object[] arguments) throws IllegalAccessException {
        for (Method method : calls()) {
            if (method.getName().equals(call)) {
                try {
                    return String.valueOf(method.invoke(shop, arguments));
                } catch (InvocationTargetException e) {
                    return e.getCause().getClass().getSimpleName();
                }
            }
        }
        return "no call of the class";
    }

    private static List<Method> calls() {
        List<Method> all = new ArrayList<>();
        for (Method method : PosterTypes.class.getMethods()) {
            if (method.getDeclaringClass() == PosterTypes.class) {
                all.add(method);
            }
        }
        return all;
    }

    // ---- the table

    /** Each call has a row, which tells the exceptions that it declares, each for what the document says. */
    private static void table(String page, String document) {
        Map<String, String[]> rows = new HashMap<>();
        for (String line : page.split("\n")) {
            if (line.startsWith("| ")) {
                String[] cells = line.substring(1, line.length() - 1).split("\\|", -1);
                rows.put(cells[0].trim().replaceAll("`|\\(.*", ""), cells);
            }
        }
        due("the number of rows", calls().size() + 2, rows.size());
        for (int i = 0; i < EXCEPTIONS.length; i++) {
            due("the head of the table", EXCEPTIONS[i] + " if", cell(rows, "call", 2 + i));
            due(EXCEPTIONS[i] + " of the constructor", "", cell(rows, "new PosterTypes", 2 + i));
        }
        for (Method method : calls()) {
            String promise = promise(document, method.getName());
            due("the call " + method.getName(), call(promise), cell(rows, method.getName(), 0));
            for (int i = 0; i < EXCEPTIONS.length; i++) {
                due(EXCEPTIONS[i] + " of " + method.getName(), refusal(promise, EXCEPTIONS[i]),
                    cell(rows, method.getName(), 2 + i));
            }
        }
    }

    private static String cell(Map<String, String[]> rows, String call, int column) {
        String[] cells = rows.getOrDefault(call, new String[0]);
        return column < cells.length ? cells[column].replace("`", "").trim() : "no such cell";
    }

    private static String promise(String document, String call) {
        Matcher promise = Pattern.compile("(?s)## Promise \\d+: " + call + "\n(.*?)(?=\n## |$)").matcher(document);
        return promise.find() ? promise.group(1) : "";
    }

    /** The call as its signature has it, without types. */
    private static String call(String promise) {
        Matcher signature = Pattern.compile("`\\w+ (\\w+\\(.*?\\))").matcher(promise);
        return signature.find() ? signature.group(1).replace("int ", "") : "";
    }

    private static String refusal(String promise, String exception) {
        Matcher refusal = Pattern.compile("Throws `" + exception + "` if (.*)").matcher(promise);
        return refusal.find() ? refusal.group(1).trim() : "";
    }

    // ---- the tests

    private static void tests(String page) throws IOException {
        Set<String> want = new TreeSet<>();
        try (Stream<Path> files = Files.list(Path.of("src/test/java"))) {
            files.map(file -> file.getFileName().toString().replace(".java", ""))
                .filter(name -> name.endsWith("Test")).forEach(want::add);
        }
        Set<String> got = new TreeSet<>();
        Matcher test = Pattern.compile("\n- `(\\w+)`:").matcher(page);
        while (test.find()) {
            got.add(test.group(1));
        }
        due("the list of tests", want, got);
    }
}
