import java.io.IOException;
import java.lang.reflect.Constructor;
import java.lang.reflect.Field;
import java.lang.reflect.Method;
import java.lang.reflect.Modifier;
import java.nio.file.Files;
import java.nio.file.Path;
import java.util.Set;
import java.util.TreeSet;
import java.util.regex.Matcher;
import java.util.regex.Pattern;

/**
 * The members that are not private must be just those of the document's public face, each as its promise gives it
 * too, and stand in the file under the words that the document puts ahead of them.
 */
public final class FaceTest {
    private static final String PARAMETER = "int \\w+(?=[,)])";

    private static int wrong = 0;

    public static void main(String[] args) throws IOException {
        String document = Files.readString(Path.of("../shared/DOC.md"));
        Set<String> want = face(document);
        Set<String> got = found();
        report("is missing or has another signature", want, got);
        report("is not of the document's face", got, want);
        report("has no such promise", got, promised(document));
        int how = PosterTypes.class.getModifiers();
        if (!Modifier.isFinal(how) || !Modifier.isPublic(how)) {
            fault("the class is not public and final");
        }
        classesInside();
        headings(document, Files.readString(Path.of("src/main/java/PosterTypes.java")));
        System.out.println(wrong == 0 ? "the face is as the document gives it" : wrong + " wrong");
        System.exit(wrong == 0 ? 0 : 1);
    }

    private static void fault(String text) {
        wrong++;
        System.out.println(text);
    }

    /** The lines of the code block under "The public face", without the names of parameters. */
    private static Set<String> face(String document) {
        Set<String> all = new TreeSet<>();
        Matcher block = Pattern.compile("```java\npublic final class PosterTypes \\{\n(.*?)\n}\n```", Pattern.DOTALL)
            .matcher(document);
        if (!block.find()) {
            fault("the document has no code block of the face");
            return all;
        }
        for (String line : block.group(1).split("\n")) {
            all.add(line.trim().replace(";", "").replaceAll(PARAMETER, "int"));
        }
        return all;
    }

    private static Set<String> promised(String document) {
        Set<String> all = new TreeSet<>();
        Matcher promise = Pattern.compile("## Promise \\d+: .*\n\n`([^`]*)`:").matcher(document);
        while (promise.find()) {
            all.add("public " + promise.group(1).replaceAll(PARAMETER, "int"));
        }
        return all;
    }

    private static void headings(String document, String program) {
        Matcher ahead = Pattern.compile("Ahead of the calls (.*) the interface says: (---- .*)\\.").matcher(document);
        int groups = 0;
        while (ahead.find()) {
            groups++;
            String heading = "\n    // " + ahead.group(2) + "\n";
            int start = program.indexOf(heading);
            int next = program.indexOf("\n    // ----", start + 1);
            String under = start < 0 ? "" : program.substring(start, next < 0 ? program.length() : next);
            for (String call : ahead.group(1).replace("`", "").split(", ")) {
                if (!under.matches("(?s).*\n    public \\w+ " + call + "\\(.*")) {
                    fault(call + " does not stand under " + ahead.group(2));
                }
            }
        }
        if (groups == 0) {
            fault("the document puts nothing ahead of calls");
        }
    }

    private static void report(String why, Set<String> those, Set<String> others) {
        for (String one : those) {
            if (!others.contains(one)) {
                fault(one + " " + why);
            }
        }
    }

    private static Set<String> found() {
        Set<String> all = new TreeSet<>();
        for (Constructor<?> made : PosterTypes.class.getDeclaredConstructors()) {
            all.add("public PosterTypes(" + names(made.getParameterTypes()) + ")" + thrown(made.getExceptionTypes()));
        }
        Set<String> publicNames = new TreeSet<>();
        for (Method method : PosterTypes.class.getDeclaredMethods()) {
            if (!Modifier.isPrivate(method.getModifiers()) && !method.isSynthetic()) {
                publicNames.add(method.getName());
                all.add(Modifier.toString(method.getModifiers()) + " " + method.getReturnType().getSimpleName() + " "
                    + method.getName() + "(" + names(method.getParameterTypes()) + ")"
                    + thrown(method.getExceptionTypes()));
            }
        }
        for (Method method : PosterTypes.class.getDeclaredMethods()) {
            if (Modifier.isPrivate(method.getModifiers()) && publicNames.contains(method.getName())) {
                fault("a private method bears the public name " + method.getName());
            }
        }
        for (Field field : PosterTypes.class.getDeclaredFields()) {
            if (!Modifier.isPrivate(field.getModifiers()) && !field.isSynthetic()) {
                all.add("field " + field.getName());
            }
            if (Modifier.isStatic(field.getModifiers()) && !Modifier.isFinal(field.getModifiers())) {
                fault("the static field " + field.getName() + " is not final");
            }
        }
        return all;
    }

    private static void classesInside() {
        for (Class<?> inside : PosterTypes.class.getDeclaredClasses()) {
            int how = inside.getModifiers();
            if (Modifier.isPublic(how) || Modifier.isProtected(how) || !Modifier.isStatic(how)) {
                fault(inside.getName() + " is not private or package-visible and static");
            }
        }
    }

    private static String names(Class<?>[] types) {
        StringBuilder text = new StringBuilder();
        for (Class<?> type : types) {
            text.append(text.length() == 0 ? "" : ", ").append(type.getSimpleName());
        }
        return text.toString();
    }

    private static String thrown(Class<?>[] types) {
        return types.length == 0 ? "" : " throws " + names(types);
    }
}
