import java.lang.reflect.Constructor;
import java.lang.reflect.Field;
import java.lang.reflect.Method;
import java.lang.reflect.Modifier;
import java.util.List;
import java.util.Set;
import java.util.TreeSet;

/** The members that are not private must be just those of the document's public face. */
public final class FaceTest {
    /** The lines of the code block under "The public face", without the names of parameters. */
    private static final String[] FACE = {
        "public PosterTypes()",
        "public int fount(int) throws IllegalArgumentException, IllegalStateException",
        "public int buy(int, int, int)"
            + " throws IndexOutOfBoundsException, IllegalArgumentException, IllegalStateException",
        "public int buyAll(int, int) throws IndexOutOfBoundsException, IllegalArgumentException",
        "public int setOther(int, int) throws IndexOutOfBoundsException, IllegalArgumentException",
        "public int setTown(int, int, int) throws IndexOutOfBoundsException, IllegalArgumentException",
        "public int poster(int, int)"
            + " throws IndexOutOfBoundsException, IllegalArgumentException, IllegalStateException",
        "public int line(int, int)"
            + " throws IndexOutOfBoundsException, IllegalArgumentException, IllegalStateException",
        "public int set(int) throws IndexOutOfBoundsException, IllegalStateException",
        "public int print(int, int)"
            + " throws IndexOutOfBoundsException, IllegalArgumentException, IllegalStateException",
        "public int strike(int) throws IndexOutOfBoundsException, IllegalStateException",
        "public int block(int, int, int) throws IndexOutOfBoundsException",
        "public int told(int, int) throws IndexOutOfBoundsException",
        "public int about(int, int, int) throws IndexOutOfBoundsException",
        "public int count(int) throws IndexOutOfBoundsException",
        "public int would(int, int) throws IndexOutOfBoundsException",
        "public int next()",
        "public int advise(int) throws IndexOutOfBoundsException",
        "public int lasts(int) throws IndexOutOfBoundsException, IllegalStateException",
        "public double mean()",
        "public long digest()"
    };

    private static int wrong = 0;

    public static void main(String[] args) {
        Set<String> want = new TreeSet<>(List.of(FACE));
        Set<String> got = found();
        report("is missing or has another signature", want, got);
        report("is not of the document's face", got, want);
        int how = PosterTypes.class.getModifiers();
        if (!Modifier.isFinal(how) || !Modifier.isPublic(how)) {
            wrong++;
            System.out.println("the class is not public and final");
        }
        classesInside();
        System.out.println(wrong == 0 ? "the face is as the document gives it" : wrong + " wrong");
        System.exit(wrong == 0 ? 0 : 1);
    }

    private static void report(String why, Set<String> those, Set<String> others) {
        for (String one : those) {
            if (!others.contains(one)) {
                wrong++;
                System.out.println(one + " " + why);
            }
        }
    }

    private static Set<String> found() {
        Set<String> all = new TreeSet<>();
        for (Constructor<?> made : PosterTypes.class.getDeclaredConstructors()) {
            all.add("public PosterTypes(" + names(made.getParameterTypes()) + ")" + thrown(made.getExceptionTypes()));
        }
        Set<String> publicNames = new TreeSet<>();
        for (Method method : PosterTypes.class.getDeclaredMethods()) {
            if (!Modifier.isPrivate(method.getModifiers()) && !method.isSynthetic()) {
                publicNames.add(method.getName());
                all.add(Modifier.toString(method.getModifiers()) + " " + method.getReturnType().getSimpleName() + " "
                    + method.getName() + "(" + names(method.getParameterTypes()) + ")"
                    + thrown(method.getExceptionTypes()));
            }
        }
        for (Method method : PosterTypes.class.getDeclaredMethods()) {
            if (Modifier.isPrivate(method.getModifiers()) && publicNames.contains(method.getName())) {
                wrong++;
                System.out.println("a private method bears the public name " + method.getName());
            }
        }
        for (Field field : PosterTypes.class.getDeclaredFields()) {
            if (!Modifier.isPrivate(field.getModifiers()) && !field.isSynthetic()) {
                all.add("field " + field.getName());
            }
            if (Modifier.isStatic(field.getModifiers()) && !Modifier.isFinal(field.getModifiers())) {
                wrong++;
                System.out.println("the static field " + field.getName() + " is not final");
            }
        }
        return all;
    }

    private static void classesInside() {
        for (Class<?> inside : PosterTypes.class.getDeclaredClasses()) {
            int how = inside.getModifiers();
            if (Modifier.isPublic(how) || Modifier.isProtected(how) || !Modifier.isStatic(how)) {
                wrong++;
                System.out.println(inside.getName() + " is not private or package-visible and static");
            }
        }
    }

    private static String names(Class<?>[] types) {
        StringBuilder text = new StringBuilder();
        for (Class<?> type : types) {
            text.append(text.length() == 0 ? "" : ", ").append(type.getSimpleName());
        }
        return text.toString();
    }

    private static String thrown(Class<?>[] types) {
        return types.length == 0 ? "" : " throws " + names(types);
    }
}
