import java.io.IOException;
import java.lang.reflect.Constructor;
import java.lang.reflect.Field;
import java.lang.reflect.Method;
import java.lang.reflect.Modifier;
import java.nio.file.Files;
import java.nio.file.Path;
import java.util.Set;
import java.util.TreeSet;

/** The members that are not private must be just those of the document's public face. */
public final class FaceTest {
    private static int wrong = 0;

    public static void main(String[] args) throws IOException {
        Set<String> want = wanted(Path.of("../shared/DOC.md"));
        Set<String> got = found();
        report("is missing or has another signature", want, got);
        report("is not of the document's face", got, want);
        if (!Modifier.isFinal(PosterTypes.class.getModifiers()) || !Modifier.isPublic(PosterTypes.class.getModifiers())) {
            wrong++;
            System.out.println("the class is not public and final");
        }
        classesInside();
        System.out.println(wrong == 0 ? "the face is as the document gives it" : wrong + " wrong");
        System.exit(wrong == 0 ? 0 : 1);
    }

    private static void report(String why, Set<String> those, Set<String> others) {
        for (String one : those) {
            if (!others.contains(one)) {
                wrong++;
                System.out.println(one + " " + why);
            }
        }
    }

    /** The lines of the document's code block, without the names of parameters. */
    private static Set<String> wanted(Path document) throws IOException {
        Set<String> all = new TreeSet<>();
        boolean inFace = false;
        for (String line : Files.readAllLines(document)) {
            inFace = line.startsWith("public final class") || (inFace && !line.startsWith("}"));
            if (inFace && line.startsWith("    public ")) {
                all.add(line.trim().replace(";", "").replaceAll("(int|long|double) \\w+(?=[,)])", "$1"));
            }
        }
        if (all.isEmpty()) {
            wrong++;
            System.out.println("no face found in " + document);
        }
        return all;
    }

    private static Set<String> found() {
        Set<String> all = new TreeSet<>();
        for (Constructor<?> made : PosterTypes.class.getDeclaredConstructors()) {
            all.add("public PosterTypes(" + names(made.getParameterTypes()) + ")" + thrown(made.getExceptionTypes()));
        }
        Set<String> publicNames = new TreeSet<>();
        for (Method method : PosterTypes.class.getDeclaredMethods()) {
            if (!Modifier.isPrivate(method.getModifiers())) {
                publicNames.add(method.getName());
                all.add(Modifier.toString(method.getModifiers()) + " " + method.getReturnType().getSimpleName() + " "
                    + method.getName() + "(" + names(method.getParameterTypes()) + ")"
                    + thrown(method.getExceptionTypes()));
            }
        }
        for (Method method : PosterTypes.class.getDeclaredMethods()) {
            if (Modifier.isPrivate(method.getModifiers()) && publicNames.contains(method.getName())) {
                wrong++;
                System.out.println("a private method bears the public name " + method.getName());
            }
        }
        for (Field field : PosterTypes.class.getDeclaredFields()) {
            if (!Modifier.isPrivate(field.getModifiers())) {
                all.add("field " + field.getName());
            }
            if (Modifier.isStatic(field.getModifiers()) && !Modifier.isFinal(field.getModifiers())) {
                wrong++;
                System.out.println("the static field " + field.getName() + " is not final");
            }
        }
        return all;
    }

    private static void classesInside() {
        for (Class<?> inside : PosterTypes.class.getDeclaredClasses()) {
            int how = inside.getModifiers();
            if (Modifier.isPublic(how) || Modifier.isProtected(how) || !Modifier.isStatic(how)) {
                wrong++;
                System.out.println(inside.getName() + " is not private or package-visible and static");
            }
        }
    }

    private static String names(Class<?>[] types) {
        StringBuilder text = new StringBuilder();
        for (Class<?> type : types) {
            text.append(text.length() == 0 ? "" : ", ").append(type.getSimpleName());
        }
        return text.toString();
    }

    private static String thrown(Class<?>[] types) {
        return types.length == 0 ? "" : " throws " + names(types);
    }
}
