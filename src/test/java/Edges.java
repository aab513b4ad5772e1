import java.util.ArrayList;
import java.util.List;

/** What the tests of the document's edges share: shops to begin with, and how answers are held against due ones. */
final class Edges {
    interface Shop {
        PosterTypes made();
    }

    interface Call {
        Object on(PosterTypes x);
    }

    static final Class<? extends RuntimeException> INDEX = IndexOutOfBoundsException.class;
    static final Class<? extends RuntimeException> ARGUMENT = IllegalArgumentException.class;
    static final Class<? extends RuntimeException> STATE = IllegalStateException.class;

    private static int wrong = 0;
    private static String test = "";

    private Edges() {
    }

    static void begin(String name) {
        test = name;
    }

    static int wrong() {
        return wrong;
    }

    static void fault(String text) {
        wrong++;
        System.out.println(test + ": " + text);
    }

    static void due(String call, long want, long got) {
        if (want != got) {
            fault(call + " answered " + got + ", due is " + want);
        }
    }

    static void dueDouble(String call, double want, double got) {
        if (want != got) {
            fault(call + " answered " + got + ", due is " + want);
        }
    }

    /** The call, made on a shop of its own, is answered so. */
    static void answered(String call, long want, Shop shop, Call made) {
        due(call, want, ((Number) made.on(shop.made())).longValue());
    }

    /**
     * The call throws just this exception, and the shop tells then what one tells that was made the same way
     * and never got the call. Each list of answers is asked of a shop of its own: a shop has but 512 calls.
     */
    static void refused(String call, Class<? extends RuntimeException> want, Shop shop, Call made) {
        PosterTypes asked = shop.made();
        dueThrow(call, want, asked, made);
        same(call, told(shop.made()), told(asked));
        PosterTypes changed = shop.made();
        outcome(changed, made);
        same(call, answersToChanges(shop.made()), answersToChanges(changed));
    }

    /** The call is answered, and the shop tells then what it would tell without the call. */
    static void changesNothing(String call, Shop shop, Call made) {
        PosterTypes asked = shop.made();
        made.on(asked);
        same(call, told(shop.made()), told(asked));
        PosterTypes changed = shop.made();
        made.on(changed);
        same(call, answersToChanges(shop.made()), answersToChanges(changed));
    }

    private static void dueThrow(String call, Class<? extends RuntimeException> want, PosterTypes x, Call made) {
        try {
            fault(call + " answered " + made.on(x) + ", due is " + want.getSimpleName());
        } catch (RuntimeException e) {
            if (e.getClass() != want) {
                fault(call + " threw " + e + ", due is " + want.getSimpleName());
            } else if (!isThrownByTheClass(e)) {
                fault(call + " threw by the machine in " + e.getStackTrace()[0]);
            }
        }
    }

    /** A list's own IndexOutOfBoundsException looks like the one that is due, but it is not thrown by a throw. */
    private static boolean isThrownByTheClass(RuntimeException e) {
        StackTraceElement[] trace = e.getStackTrace();
        return trace.length == 0 || trace[0].getClassName().split("\\$")[0].equals("PosterTypes");
    }

    private static String outcome(PosterTypes x, Call made) {
        try {
            return String.valueOf(made.on(x));
        } catch (RuntimeException e) {
            return e.getClass().getSimpleName();
        }
    }

    private static void same(String call, List<String> want, List<String> got) {
        for (int i = 0; i < Math.min(want.size(), got.size()); i++) {
            if (!want.get(i).equals(got.get(i))) {
                fault("behind " + call + " it is told " + got.get(i) + ", without it " + want.get(i));
                return;
            }
        }
        due("how much is told behind " + call, want.size(), got.size());
    }

    private static void tell(List<String> all, String call, PosterTypes x, Call made) {
        all.add(call + " = " + outcome(x, made));
    }

    /** What all calls answer that change nothing: at most 336 calls. */
    private static List<String> told(PosterTypes x) {
        List<String> all = new ArrayList<>();
        tell(all, "digest()", x, PosterTypes::digest);
        for (int i = 0; i < 7; i++) {
            int what = i;
            tell(all, "count(" + what + ")", x, s -> s.count(what));
        }
        int founts = x.count(0);
        for (int i = 0; i < 30 * founts; i++) {
            int fount = i / 30;
            int letter = i / 3 % 10;
            int what = i % 3;
            tell(all, "block(" + fount + ", " + letter + ", " + what + ")", x, s -> s.block(fount, letter, what));
        }
        int posters = x.count(1);
        for (int i = 0; i < posters; i++) {
            tellPoster(all, x, i);
        }
        for (int i = 0; i < posters; i++) {
            int poster = i;
            tell(all, "would(" + poster + ", 0)", x, s -> s.would(poster, 0));
            tell(all, "would(" + poster + ", 1)", x, s -> s.would(poster, 1));
            tell(all, "advise(" + poster + ")", x, s -> s.advise(poster));
            tell(all, "lasts(" + poster + ")", x, s -> s.lasts(poster));
        }
        tell(all, "next()", x, PosterTypes::next);
        tell(all, "mean()", x, PosterTypes::mean);
        return all;
    }

    private static void tellPoster(List<String> all, PosterTypes x, int poster) {
        for (int i = 0; i < 8; i++) {
            int what = i;
            tell(all, "told(" + poster + ", " + what + ")", x, s -> s.told(poster, what));
        }
        int lines = x.told(poster, 2);
        for (int i = 0; i < 4 * lines; i++) {
            int line = i / 4;
            int what = i % 4;
            tell(all, "about(" + poster + ", " + line + ", " + what + ")", x, s -> s.about(poster, line, what));
        }
    }

    /** What calls answer that change the shop, and so show what no other call tells (what an idle town pays). */
    private static List<String> answersToChanges(PosterTypes x) {
        List<String> all = new ArrayList<>();
        for (int i = 0; i < 4; i++) {
            int town = i;
            tell(all, "setTown(" + town + ", 4, 2)", x, s -> s.setTown(town, 4, 2));
        }
        for (int i = 0; i < 10; i++) {
            int letter = i;
            tell(all, "setOther(" + letter + ", -1)", x, s -> s.setOther(letter, -1));
        }
        tell(all, "poster(3, 1)", x, s -> s.poster(3, 1));
        tell(all, "fount(20)", x, s -> s.fount(20));
        int posters = x.count(1);
        for (int i = 0; i < posters; i++) {
            int poster = i;
            tell(all, "line(" + poster + ", 70)", x, s -> s.line(poster, 70));
            tell(all, "print(" + poster + ", 333)", x, s -> s.print(poster, 333));
            tell(all, "strike(" + poster + ")", x, s -> s.strike(poster));
        }
        int founts = x.count(0);
        for (int i = 0; i < 10 * founts; i++) {
            int fount = i / 10;
            int letter = i % 10;
            tell(all, "buy(" + fount + ", " + letter + ", 1)", x, s -> s.buy(fount, letter, 1));
        }
        for (int i = 0; i < posters; i++) {
            int poster = i;
            tell(all, "set(" + poster + ")", x, s -> s.set(poster));
        }
        tell(all, "digest()", x, PosterTypes::digest);
        return all;
    }

    /** A shop with founts of height 10 and as many blocks of all letters in each. */
    static PosterTypes founts(int founts, int many) {
        PosterTypes x = new PosterTypes();
        for (int i = 0; i < founts; i++) {
            x.fount(10);
            if (many > 0) {
                x.buyAll(i, many);
            }
        }
        return x;
    }

    /** A new poster for town 0 that any fount is high enough for. */
    static int poster(PosterTypes x, int... words) {
        return posterFor(x, 0, 1, words);
    }

    static int posterFor(PosterTypes x, int town, int tall, int... words) {
        int poster = x.poster(town, tall);
        for (int word : words) {
            x.line(poster, word);
        }
        return poster;
    }

    /** The word of so many times a letter, at most 8. */
    static int word(int letter, int times) {
        return Integer.parseInt(String.valueOf(letter).repeat(times));
    }

    /** A new poster for town 0 with so many times a letter, in as few lines as it takes. */
    static int posterOf(PosterTypes x, int letter, int times) {
        int poster = x.poster(0, 1);
        for (int left = times; left > 0; left -= 8) {
            x.line(poster, word(letter, Math.min(left, 8)));
        }
        return poster;
    }

    /**
     * A shop with something of all: two founts (one letter with 9 blocks); a poster that is set with flaws, one
     * that can be set, with a flaw, one without lines, one with 4 lines that cannot be set, a struck one.
     */
    static PosterTypes busy() {
        PosterTypes x = new PosterTypes();
        x.fount(8);
        x.fount(12);
        x.buyAll(0, 3);
        x.buyAll(1, 1);
        x.buy(1, 7, 8);
        x.setOther(1, 2);
        x.setOther(0, 9);
        x.setTown(1, 7, 11);
        x.setTown(2, 4, 30);
        x.set(posterFor(x, 1, 12, 11, 30));
        x.print(0, 450);
        posterFor(x, 2, 8, 1111, 2);
        posterFor(x, 0, 20);
        posterFor(x, 3, 12, 0, 7, 77, 555);
        x.set(posterFor(x, 0, 1, 6));
        x.strike(4);
        return x;
    }

    /** A shop with as many founts, blocks, posters and lines as there may be; posters 0 to 4 are set. */
    static PosterTypes full() {
        PosterTypes x = new PosterTypes();
        for (int fount = 0; fount < 5; fount++) {
            x.fount(20);
            x.buyAll(fount, 9);
        }
        for (int poster = 0; poster < 6; poster++) {
            posterFor(x, poster % 4, 20, 99999999, 88888888, 0, 12345670 + poster);
            if (poster < 5) {
                x.set(poster);
            }
        }
        return x;
    }
}
