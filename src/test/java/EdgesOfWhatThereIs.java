/** The edges of promises 12 to 15: what block, told, about and count tell. */
final class EdgesOfWhatThereIs {
    private static final int[] FAR = {Integer.MIN_VALUE, Integer.MAX_VALUE};

    private EdgesOfWhatThereIs() {
    }

    private static PosterTypes without(int posters) {
        PosterTypes x = Edges.founts(1, 9);
        for (int i = 0; i < posters; i++) {
            x.poster(0, 1);
        }
        return x;
    }

    /** Poster 0, for town 2 and 3 high, of two lines with two flaws: 6 * 4 letters, of a fount of 6. */
    private static PosterTypes flawed() {
        PosterTypes x = new PosterTypes();
        x.fount(6);
        x.buy(0, 1, 1);
        x.buy(0, 0, 3);
        x.setOther(1, 0);
        Edges.posterFor(x, 2, 3, 11, 10);
        return x;
    }

    private static PosterTypes flawedSet() {
        PosterTypes x = flawed();
        x.set(0);
        return x;
    }

    private static PosterTypes flawedStruck() {
        PosterTypes x = flawedSet();
        x.print(0, 7);
        x.strike(0);
        return x;
    }

    // ---- promise 12

    @Sentence(promise = 12, words = {
        "what: 0 its blocks, 1 free ones, 2 its wear",
        "Returns this."})
    static void blockTellsNoneAndAll() {
        long[] none = {0, 0, 0};
        long[] some = {9, 9, 0};
        long[] out = {9, 0, 4500};
        for (int i = 0; i < 3; i++) {
            int what = i;
            Edges.answered("block(0, 5, " + what + ") without blocks", none[what], () -> Edges.founts(1, 0),
                x -> x.block(0, 5, what));
            Edges.answered("block(0, 5, " + what + ") with all free", some[what], () -> Edges.founts(1, 9),
                x -> x.block(0, 5, what));
            Edges.answered("block(0, 5, " + what + ") with all out", out[what], () -> {
                PosterTypes x = Edges.founts(1, 9);
                x.set(Edges.poster(x, 55555555, 5));
                x.print(0, 500);
                return x;
            }, x -> x.block(0, 5, what));
            Edges.answered("block(0, 5, " + what + ") when all broke", what == 2 ? 900 : 0, () -> {
                PosterTypes x = Edges.founts(1, 9);
                x.set(Edges.poster(x, 55555555, 5));
                x.print(0, 500);
                x.strike(0);
                return x;
            }, x -> x.block(0, 5, what));
        }
    }

    @Sentence(promise = 12, words = {
        "fount: a fount",
        "Throws IndexOutOfBoundsException if there is no such fount or letter, or what is not 0 to 2"})
    static void blockWantsAFount() {
        for (int i = 0; i < 5; i++) {
            int fount = i;
            Edges.answered("block(" + fount + ", 0, 0)", 9, Edges::full, x -> x.block(fount, 0, 0));
            Edges.refused("block(" + fount + ", 0, 0) with " + fount, Edges.INDEX, () -> Edges.founts(fount, 1),
                x -> x.block(fount, 0, 0));
        }
        for (int fount : new int[] {-1, 5, FAR[0], FAR[1]}) {
            Edges.refused("block(" + fount + ", 0, 0)", Edges.INDEX, Edges::full, x -> x.block(fount, 0, 0));
        }
    }

    @Sentence(promise = 12, words = {
        "letter: a letter",
        "Throws IndexOutOfBoundsException if there is no such fount or letter, or what is not 0 to 2"})
    static void blockWantsALetter() {
        Edges.answered("block(4, 0, 0)", 9, Edges::full, x -> x.block(4, 0, 0));
        Edges.answered("block(4, 9, 0)", 9, Edges::full, x -> x.block(4, 9, 0));
        for (int letter : new int[] {-1, 10, FAR[0], FAR[1]}) {
            for (int fount : new int[] {0, 4}) {
                Edges.refused("block(" + fount + ", " + letter + ", 0)", Edges.INDEX, Edges::full,
                    x -> x.block(fount, letter, 0));
            }
        }
    }

    @Sentence(promise = 12, words = "Throws IndexOutOfBoundsException if there is no such fount or letter, or what is"
        + " not 0 to 2")
    static void blockWantsWhat() {
        for (int what : new int[] {-1, 3, FAR[0], FAR[1]}) {
            Edges.refused("block(0, 0, " + what + ")", Edges.INDEX, Edges::full, x -> x.block(0, 0, what));
            Edges.refused("block(4, 9, " + what + ")", Edges.INDEX, Edges::full, x -> x.block(4, 9, what));
        }
        Edges.changesNothing("block(0, 1, 2)", Edges::busy, x -> x.block(0, 1, 2));
    }

    // ---- promise 13

    private static void dueTold(String when, Edges.Shop shop, long... want) {
        for (int i = 0; i < 8; i++) {
            int what = i;
            Edges.answered("told(0, " + what + ") " + when, want[what], shop, x -> x.told(0, what));
        }
    }

    @Sentence(promise = 13, words = {
        "what: 0 its town, 1 the height that it wants, 2 its lines, 3 letters of all its lines,",
        "Returns this."})
    static void toldOfNoLinesAndOfAll() {
        dueTold("without lines", () -> without(1), 0, 1, 0, 0, 0, 0, 0, 0);
        dueTold("of the least poster", EdgesOfWhatThereIs::flawed, 2, 3, 2, 4, 0, 0, 0, 0);
        dueTold("of 4 lines of 8 letters", EdgesOfWhatThereIs::greatest, 3, 20, 4, 32, 1, 0, 0, 20 * 32 * 3);
        Edges.answered("told(0, 3) of four words 0", 4, () -> {
            PosterTypes x = without(0);
            Edges.poster(x, 0, 0, 0, 0);
            return x;
        }, x -> x.told(0, 3));
    }

    private static PosterTypes greatest() {
        PosterTypes x = new PosterTypes();
        x.fount(20);
        x.buyAll(0, 9);
        Edges.posterFor(x, 3, 20, 10234567, 99999999, 88888888, 77777777);
        x.set(0);
        return x;
    }

    @Sentence(promise = 13, words = "4 1 if it is set, else 0, 5 its flaws, 0 if it is not set,")
    static void toldIfSetAndFlaws() {
        dueTold("ahead of the setting", EdgesOfWhatThereIs::flawed, 2, 3, 2, 4, 0, 0, 0, 0);
        dueTold("set", EdgesOfWhatThereIs::flawedSet, 2, 3, 2, 4, 1, 2, 0, 6 * 4 * 3 - 2 * 5);
        dueTold("struck", EdgesOfWhatThereIs::flawedStruck, 2, 3, 2, 4, 0, 0, 7, 0);
        Edges.answered("told(0, 5) when would told it", 0, EdgesOfWhatThereIs::flawed, x -> {
            x.would(0, 1);
            return x.told(0, 5);
        });
    }

    @Sentence(promise = 13, words = "6 copies that were printed in all")
    static void toldCopiesInAll() {
        PosterTypes x = flawed();
        Edges.due("told(0, 6) ahead of all", 0, x.told(0, 6));
        x.set(0);
        Edges.due("told(0, 6) set", 0, x.told(0, 6));
        x.print(0, 1);
        x.print(0, 398);
        Edges.due("told(0, 6) behind 1 and 398", 399, x.told(0, 6));
        x.strike(0);
        Edges.due("told(0, 6) struck", 399, x.told(0, 6));
        x.buyAll(0, 5);
        x.set(0);
        x.print(0, 500);
        Edges.due("told(0, 6) behind 500 more, set again", 899, x.told(0, 6));
        Edges.due("told(1, 6) of another poster", 0, x.told(Edges.poster(x, 5), 6));
    }

    @Sentence(promise = 13, words = "7 its proof")
    static void toldProof() {
        int[][] proofs = {{3, 5, 62}, {0, 0, 0}, {9, 0, 216}, {9, 30, 156}, {1, 11, 2}, {1, 12, 0}, {1, 13, 0}};
        for (int[] row : proofs) {
            Edges.answered("told(0, 7), pay " + row[0] + ", strict " + row[1], row[2], EdgesOfWhatThereIs::flawedSet,
                x -> {
                    x.setTown(2, row[0], row[1]);
                    return x.told(0, 7);
                });
        }
    }

    @Sentence(promise = 13, words = {
        "poster: a poster",
        "Throws IndexOutOfBoundsException if there is no such poster, or what is not 0 to 7"})
    static void toldWantsAPoster() {
        for (int i = 0; i < 6; i++) {
            int poster = i;
            Edges.answered("told(" + poster + ", 2)", 4, Edges::full, x -> x.told(poster, 2));
            Edges.refused("told(" + poster + ", 2) with " + poster, Edges.INDEX, () -> without(poster),
                x -> x.told(poster, 2));
        }
        for (int poster : new int[] {-1, 6, FAR[0], FAR[1]}) {
            Edges.refused("told(" + poster + ", 2)", Edges.INDEX, Edges::full, x -> x.told(poster, 2));
        }
    }

    @Sentence(promise = 13, words = "Throws IndexOutOfBoundsException if there is no such poster, or what is not 0 to"
        + " 7")
    static void toldWantsWhat() {
        for (int what : new int[] {-1, 8, FAR[0], FAR[1]}) {
            Edges.refused("told(0, " + what + ") of a set poster", Edges.INDEX, Edges::full, x -> x.told(0, what));
            Edges.refused("told(5, " + what + ")", Edges.INDEX, Edges::full, x -> x.told(5, what));
            Edges.refused("told(0, " + what + ") without lines", Edges.INDEX, () -> without(1),
                x -> x.told(0, what));
        }
        Edges.changesNothing("told(0, 7)", Edges::busy, x -> x.told(0, 7));
        Edges.changesNothing("told(1, 7)", Edges::busy, x -> x.told(1, 7));
    }

    // ---- promise 14

    @Sentence(promise = 14, words = {
        "what: 0 its letters, 1 the fount of which it is set, 2 its flaws, 3 the letters of the blocks that"
        + " it takes, as a word",
        "Returns this."})
    static void aboutALineThatIsSet() {
        long[][] want = {{2, 0, 1, 10}, {2, 0, 1, 0}};
        for (int i = 0; i < 8; i++) {
            int line = i / 4;
            int what = i % 4;
            Edges.answered("about(0, " + line + ", " + what + ")", want[line][what], EdgesOfWhatThereIs::flawedSet,
                x -> x.about(0, line, what));
        }
        long[][] full = {{8, 4, 0, 99999999}, {8, 4, 0, 88888888}, {1, 0, 0, 0}, {8, 0, 0, 12345674}};
        for (int i = 0; i < 16; i++) {
            int line = i / 4;
            int what = i % 4;
            Edges.answered("about(4, " + line + ", " + what + ")", full[line][what], Edges::full,
                x -> x.about(4, line, what));
        }
    }

    @Sentence(promise = 14, words = "(so a 0 ahead of all does not show)")
    static void aboutAWordWithA0AheadOfAll() {
        int[][] words = {{15, 5}, {11, 0}, {51, 50}, {115, 5}, {151, 50}, {511, 500}, {11111111, 0},
            {51111111, 50000000}, {15111111, 5000000}};
        for (int[] pair : words) {
            PosterTypes x = new PosterTypes();
            x.fount(4);
            x.buy(0, 0, 9);
            x.buy(0, 5, 1);
            x.setOther(1, 0);
            Edges.poster(x, pair[0]);
            x.set(0);
            Edges.due("about(0, 0, 3) of " + pair[0] + " with 0 for 1", pair[1], x.about(0, 0, 3));
            Edges.due("its letters", String.valueOf(pair[0]).length(), x.about(0, 0, 0));
        }
    }

    @Sentence(promise = 14, words = "-1 for 1 to 3, if it is not set")
    static void aboutALineThatIsNotSet() {
        Edges.Shop[] shops = {EdgesOfWhatThereIs::flawed, EdgesOfWhatThereIs::flawedStruck, () -> {
            PosterTypes x = flawed();
            x.would(0, 0);
            x.advise(0);
            x.next();
            return x;
        }};
        for (Edges.Shop shop : shops) {
            for (int i = 0; i < 2; i++) {
                int line = i;
                Edges.answered("about(0, " + line + ", 0)", 2, shop, x -> x.about(0, line, 0));
                Edges.answered("about(0, " + line + ", 1)", -1, shop, x -> x.about(0, line, 1));
                Edges.answered("about(0, " + line + ", 2)", -1, shop, x -> x.about(0, line, 2));
                Edges.answered("about(0, " + line + ", 3)", -1, shop, x -> x.about(0, line, 3));
            }
        }
    }

    @Sentence(promise = 14, words = {
        "poster: a poster",
        "Throws IndexOutOfBoundsException if there is no such poster or line, or what is not 0 to 3"})
    static void aboutWantsAPoster() {
        Edges.answered("about(0, 0, 0)", 8, Edges::full, x -> x.about(0, 0, 0));
        Edges.answered("about(5, 0, 0)", 8, Edges::full, x -> x.about(5, 0, 0));
        for (int poster : new int[] {-1, 6, FAR[0], FAR[1]}) {
            Edges.refused("about(" + poster + ", 0, 0)", Edges.INDEX, Edges::full, x -> x.about(poster, 0, 0));
        }
        Edges.refused("about(0, 0, 0) without posters", Edges.INDEX, PosterTypes::new, x -> x.about(0, 0, 0));
        Edges.refused("about(1, 0, 0) with one", Edges.INDEX, EdgesOfWhatThereIs::flawed, x -> x.about(1, 0, 0));
    }

    @Sentence(promise = 14, words = {
        "line: one of its lines",
        "Throws IndexOutOfBoundsException if there is no such poster or line, or what is not 0 to 3"})
    static void aboutWantsALine() {
        Edges.answered("about(5, 3, 0)", 8, Edges::full, x -> x.about(5, 3, 0));
        for (int i = 0; i <= 4; i++) {
            int lines = i;
            Edges.refused("about(0, " + lines + ", 0) with " + lines, Edges.INDEX, () -> {
                PosterTypes x = without(1);
                for (int j = 0; j < lines; j++) {
                    x.line(0, 5);
                }
                return x;
            }, x -> x.about(0, lines, 0));
        }
        for (int line : new int[] {-1, 4, FAR[0], FAR[1]}) {
            Edges.refused("about(0, " + line + ", 0)", Edges.INDEX, Edges::full, x -> x.about(0, line, 0));
            Edges.refused("about(5, " + line + ", 3)", Edges.INDEX, Edges::full, x -> x.about(5, line, 3));
        }
    }

    @Sentence(promise = 14, words = "Throws IndexOutOfBoundsException if there is no such poster or line, or what is"
        + " not 0 to 3")
    static void aboutWantsWhat() {
        for (int what : new int[] {-1, 4, FAR[0], FAR[1]}) {
            Edges.refused("about(0, 0, " + what + ") of a set poster", Edges.INDEX, Edges::full,
                x -> x.about(0, 0, what));
            Edges.refused("about(5, 3, " + what + ")", Edges.INDEX, Edges::full, x -> x.about(5, 3, what));
        }
        Edges.changesNothing("about(0, 0, 3)", Edges::busy, x -> x.about(0, 0, 3));
        Edges.changesNothing("about(1, 0, 3)", Edges::busy, x -> x.about(1, 0, 3));
    }

    // ---- promise 15

    @Sentence(promise = 15, words = {
        "what: 0 founts, 1 posters, 2 those that are set, 3 coins in all, 4 blocks that broke in all, 5"
        + " blocks of all founts, 6 those of them that are out",
        "Returns this."})
    static void countTellsNoneAndAll() {
        long[] full = {5, 6, 5, 0, 0, 450, 125};
        for (int i = 0; i < 7; i++) {
            int what = i;
            Edges.answered("count(" + what + ") of a new shop", 0, PosterTypes::new, x -> x.count(what));
            Edges.answered("count(" + what + ") of a full shop", full[what], Edges::full, x -> x.count(what));
        }
        PosterTypes x = Edges.full();
        for (int poster = 0; poster < 5; poster++) {
            x.print(poster, 400);
        }
        long[] printed = {5, 6, 5, 5 * (20 * 25 * 3 * 4), 0, 450, 125};
        for (int what = 0; what < 7; what++) {
            Edges.due("count(" + what + ") of a full shop that printed", printed[what], x.count(what));
        }
        int broken = 0;
        for (int poster = 0; poster < 5; poster++) {
            broken += x.strike(poster);
        }
        long[] struck = {5, 6, 0, 5 * (20 * 25 * 3 * 4), broken, 450 - broken, 0};
        for (int what = 0; what < 7; what++) {
            Edges.due("count(" + what + ") of a full shop that struck", struck[what], x.count(what));
        }
        Edges.due("as many broke as were out, each worn by 400", 125, broken);
    }

    @Sentence(promise = 15, words = "Throws IndexOutOfBoundsException if what is not 0 to 6")
    static void countWantsWhat() {
        for (int what : new int[] {-1, 7, FAR[0], FAR[1]}) {
            Edges.refused("count(" + what + ") of a new shop", Edges.INDEX, PosterTypes::new, x -> x.count(what));
            Edges.refused("count(" + what + ") of a full shop", Edges.INDEX, Edges::full, x -> x.count(what));
        }
        Edges.changesNothing("count(6)", Edges::busy, x -> x.count(6));
    }
}
