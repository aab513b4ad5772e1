/** The edges of promises 7 to 11: posters, their lines, setting, printing and striking them. */
final class EdgesOfPosters {
    private static final int[] NO_TOWNS = {-1, 4, Integer.MIN_VALUE, Integer.MAX_VALUE};
    private static final int[] NOT_1_TO_20 = {0, 21, -1, 22, Integer.MIN_VALUE, Integer.MAX_VALUE};
    private static final int[] NOT_1_TO_500 = {0, 501, -1, 502, Integer.MIN_VALUE, Integer.MAX_VALUE};

    private EdgesOfPosters() {
    }

    private static PosterTypes posters(int many) {
        PosterTypes x = Edges.founts(1, 9);
        for (int i = 0; i < many; i++) {
            x.poster(0, 1);
        }
        return x;
    }

    /** Poster 0 has these lines and is not set; the fount has 2 blocks of each letter. */
    private static PosterTypes with(int... words) {
        PosterTypes x = Edges.founts(1, 2);
        Edges.poster(x, words);
        return x;
    }

    private static PosterTypes set(int... words) {
        PosterTypes x = with(words);
        x.set(0);
        return x;
    }

    private static PosterTypes struck(int... words) {
        PosterTypes x = set(words);
        x.strike(0);
        return x;
    }

    /** Six posters, each with one line, of a letter of its own: 0 to 5. */
    private static PosterTypes six() {
        PosterTypes x = Edges.founts(1, 1);
        for (int i = 0; i < 6; i++) {
            Edges.poster(x, i);
        }
        return x;
    }

    private static PosterTypes sixSet() {
        PosterTypes x = six();
        for (int i = 0; i < 6; i++) {
            x.set(i);
        }
        return x;
    }

    // ---- promise 7

    @Sentence(promise = 7, words = "Returns its number.")
    static void posterNumbersAre0To5() {
        for (int i = 0; i < 6; i++) {
            int there = i;
            Edges.answered("poster(1, 7) beside " + there, there, () -> posters(there), x -> x.poster(1, 7));
        }
    }

    @Sentence(promise = 7, words = {
        "town: the town of a new poster",
        "Throws IndexOutOfBoundsException if there is no such town"})
    static void posterWantsATown() {
        for (int i = 0; i < 4; i++) {
            int town = i;
            Edges.answered("told(0, 0) behind poster(" + town + ", 1)", town, PosterTypes::new, x -> {
                x.poster(town, 1);
                return x.told(0, 0);
            });
        }
        for (int town : NO_TOWNS) {
            for (int tall : new int[] {1, 20, 0, 21}) {
                String call = "poster(" + town + ", " + tall + ")";
                Edges.refused(call, Edges.INDEX, PosterTypes::new, x -> x.poster(town, tall));
                Edges.refused(call + " beside 5", Edges.INDEX, Edges::busy, x -> x.poster(town, tall));
                Edges.refused(call + " beside 6", Edges.INDEX, Edges::full, x -> x.poster(town, tall));
            }
        }
    }

    @Sentence(promise = 7, words = {
        "tall: the height that it wants",
        "Throws IllegalArgumentException if tall is not 1 to 20"})
    static void posterIs1To20Tall() {
        for (int tall : new int[] {1, 2, 19, 20}) {
            Edges.answered("told(0, 1) behind poster(0, " + tall + ")", tall, PosterTypes::new, x -> {
                x.poster(0, tall);
                return x.told(0, 1);
            });
        }
        for (int tall : NOT_1_TO_20) {
            for (int town : new int[] {0, 3}) {
                String call = "poster(" + town + ", " + tall + ")";
                Edges.refused(call, Edges.ARGUMENT, PosterTypes::new, x -> x.poster(town, tall));
                Edges.refused(call + " beside 6", Edges.ARGUMENT, Edges::full, x -> x.poster(town, tall));
            }
        }
    }

    @Sentence(promise = 7, words = "Throws IllegalStateException if there are 6")
    static void postersAre6() {
        Edges.answered("the sixth poster(3, 20)", 5, () -> posters(5), x -> x.poster(3, 20));
        Edges.refused("the seventh poster(3, 20)", Edges.STATE, () -> posters(6), x -> x.poster(3, 20));
        Edges.refused("the seventh poster(0, 1)", Edges.STATE, Edges::full, x -> x.poster(0, 1));
    }

    // ---- promise 8

    @Sentence(promise = 8, words = "Adds a line to a poster.")
    static void lineIsAddedToThePosterAlone() {
        for (int poster = 0; poster < 6; poster++) {
            PosterTypes x = six();
            x.line(poster, 708);
            for (int i = 0; i < 6; i++) {
                String behind = " behind line(" + poster + ", 708)";
                Edges.due("told(" + i + ", 2)" + behind, i == poster ? 2 : 1, x.told(i, 2));
                Edges.due("told(" + i + ", 3)" + behind, i == poster ? 4 : 1, x.told(i, 3));
            }
        }
    }

    @Sentence(promise = 8, words = {
        "word: its word",
        "Returns the number of the line, from 0."})
    static void lineNumbersAre0To3() {
        PosterTypes x = posters(2);
        for (int i = 0; i < 4; i++) {
            Edges.due("line(0, 1" + i + ")", i, x.line(0, 10 + i));
        }
        Edges.due("line(1, 5) of another poster", 0, x.line(1, 5));
        x.set(0);
        for (int i = 0; i < 4; i++) {
            Edges.due("about(0, " + i + ", 3)", 10 + i, x.about(0, i, 3));
        }
    }

    @Sentence(promise = 8, words = {
        "poster: the poster",
        "Throws IndexOutOfBoundsException if there is no such poster"})
    static void lineWantsAPoster() {
        Edges.answered("line(0, 1)", 0, () -> posters(6), x -> x.line(0, 1));
        Edges.answered("line(5, 1)", 0, () -> posters(6), x -> x.line(5, 1));
        for (int word : new int[] {0, 99999999, -1, 100000000}) {
            for (int poster : new int[] {-1, 6, Integer.MIN_VALUE, Integer.MAX_VALUE}) {
                Edges.refused("line(" + poster + ", " + word + ")", Edges.INDEX, Edges::full,
                    x -> x.line(poster, word));
            }
            Edges.refused("line(0, " + word + ") without posters", Edges.INDEX, PosterTypes::new,
                x -> x.line(0, word));
            Edges.refused("line(1, " + word + ") with one", Edges.INDEX, () -> posters(1), x -> x.line(1, word));
        }
    }

    @Sentence(promise = 8, words = "Throws IllegalArgumentException if word is not 0 to 99999999")
    static void lineWantsAWord() {
        for (int word : new int[] {0, 1, 99999998, 99999999}) {
            Edges.answered("line(0, " + word + ")", 0, () -> posters(1), x -> x.line(0, word));
        }
        for (int word : new int[] {-1, 100000000, -2, 100000001, Integer.MIN_VALUE, Integer.MAX_VALUE}) {
            Edges.refused("line(0, " + word + ")", Edges.ARGUMENT, () -> posters(1), x -> x.line(0, word));
            Edges.refused("line(0, " + word + ") of a set poster", Edges.ARGUMENT, () -> set(1),
                x -> x.line(0, word));
            Edges.refused("line(0, " + word + ") of a poster with 4", Edges.ARGUMENT, () -> with(1, 2, 3, 4),
                x -> x.line(0, word));
        }
    }

    @Sentence(promise = 8, words = "Throws IllegalStateException if the poster is set, or has 4")
    static void lineIsNotAddedToASetPoster() {
        Edges.answered("line(0, 5) ahead of the setting", 1, () -> with(1), x -> x.line(0, 5));
        Edges.refused("line(0, 5) of a set poster", Edges.STATE, () -> set(1), x -> x.line(0, 5));
        Edges.refused("line(0, 0) of a set poster with 3", Edges.STATE, () -> set(1, 2, 3), x -> x.line(0, 0));
        Edges.refused("line(0, 5) of a set poster with 4", Edges.STATE, () -> set(1, 2, 3, 4), x -> x.line(0, 5));
        Edges.answered("line(0, 5) behind a strike", 1, () -> struck(1), x -> x.line(0, 5));
        Edges.answered("line(1, 5) of another poster", 0, () -> {
            PosterTypes x = set(1);
            x.poster(0, 1);
            return x;
        }, x -> x.line(1, 5));
    }

    @Sentence(promise = 8, words = "Throws IllegalStateException if the poster is set, or has 4")
    static void lineIsNotAddedTo4() {
        Edges.answered("the fourth line(0, 5)", 3, () -> with(1, 2, 3), x -> x.line(0, 5));
        Edges.refused("the fifth line(0, 5)", Edges.STATE, () -> with(1, 2, 3, 4), x -> x.line(0, 5));
        Edges.refused("the fifth line(0, 0)", Edges.STATE, () -> with(0, 0, 0, 0), x -> x.line(0, 0));
        Edges.refused("the fifth line(0, 5) behind a strike", Edges.STATE, () -> struck(1, 2, 3, 4),
            x -> x.line(0, 5));
    }

    // ---- promise 9

    @Sentence(promise = 9, words = "Sets a poster.")
    static void setIsOfThePosterAlone() {
        for (int poster = 0; poster < 6; poster++) {
            PosterTypes x = six();
            x.set(poster);
            for (int i = 0; i < 6; i++) {
                String behind = " behind set(" + poster + ")";
                Edges.due("told(" + i + ", 4)" + behind, i == poster ? 1 : 0, x.told(i, 4));
                Edges.due("about(" + i + ", 0, 3)" + behind, i == poster ? i : -1, x.about(i, 0, 3));
                Edges.due("block(0, " + i + ", 1)" + behind, i == poster ? 0 : 1, x.block(0, i, 1));
            }
        }
    }

    @Sentence(promise = 9, words = "Returns its flaws.")
    static void setTellsTheFlaws() {
        for (int i = 0; i <= 9; i++) {
            int sevens = i;
            int threes = 9 - i;
            Edges.answered("set(0) of 9 letters with " + sevens + " of their blocks", 9 - sevens, () -> {
                PosterTypes x = new PosterTypes();
                x.fount(1);
                x.setOther(7, 3);
                if (sevens > 0) {
                    x.buy(0, 7, sevens);
                }
                if (threes > 0) {
                    x.buy(0, 3, threes);
                }
                Edges.poster(x, 77, 777, 7, 777);
                return x;
            }, x -> x.set(0));
        }
    }

    @Sentence(promise = 9, words = {
        "poster: the poster",
        "Throws IndexOutOfBoundsException if there is no such poster"})
    static void setWantsAPoster() {
        Edges.answered("set(0)", 0, () -> with(1), x -> x.set(0));
        Edges.answered("set(5)", 0, () -> {
            PosterTypes x = posters(6);
            x.line(5, 1);
            return x;
        }, x -> x.set(5));
        for (int poster : new int[] {-1, 6, Integer.MIN_VALUE, Integer.MAX_VALUE}) {
            Edges.refused("set(" + poster + ")", Edges.INDEX, Edges::full, x -> x.set(poster));
        }
        Edges.refused("set(0) without posters", Edges.INDEX, PosterTypes::new, x -> x.set(0));
        Edges.refused("set(1) with one", Edges.INDEX, () -> with(1), x -> x.set(1));
    }

    @Sentence(promise = 9, words = "Throws IllegalStateException if it is set, has no line, or cannot be set")
    static void setIsForAPosterThatIsNotSet() {
        Edges.refused("set(0) again", Edges.STATE, () -> set(1), x -> x.set(0));
        Edges.refused("set(0) again, with all lines", Edges.STATE, () -> set(1, 1, 2, 2), x -> x.set(0));
        Edges.answered("set(0) behind a strike", 0, () -> struck(1), x -> x.set(0));
        Edges.answered("set(1) of another poster", 0, () -> {
            PosterTypes x = set(1);
            Edges.poster(x, 1);
            return x;
        }, x -> x.set(1));
    }

    @Sentence(promise = 9, words = "Throws IllegalStateException if it is set, has no line, or cannot be set")
    static void setIsForAPosterWithLines() {
        Edges.refused("set(0) without lines", Edges.STATE, () -> posters(1), x -> x.set(0));
        Edges.refused("set(0) without lines and founts", Edges.STATE, () -> {
            PosterTypes x = new PosterTypes();
            x.poster(0, 1);
            return x;
        }, x -> x.set(0));
        Edges.answered("set(0) with one line of one letter", 0, () -> with(0), x -> x.set(0));
    }

    @Sentence(promise = 9, words = "Throws IllegalStateException if it is set, has no line, or cannot be set")
    static void setIsForAPosterThatCanBeSet() {
        Edges.answered("set(0) of 11 with 2 blocks", 0, () -> with(11), x -> x.set(0));
        Edges.refused("set(0) of 111 with 2 blocks", Edges.STATE, () -> with(111), x -> x.set(0));
        Edges.refused("set(0) of 11, 1 with 2 blocks", Edges.STATE, () -> with(11, 1), x -> x.set(0));
        Edges.refused("set(0) of 11 with 1 free block", Edges.STATE, () -> {
            PosterTypes x = with(11);
            x.set(Edges.poster(x, 1));
            return x;
        }, x -> x.set(0));
        Edges.answered("set(0) of 111 with 2 blocks and one that stands in", 1, () -> {
            PosterTypes x = with(111);
            x.setOther(1, 0);
            return x;
        }, x -> x.set(0));
        Edges.refused("set(0) without founts", Edges.STATE, () -> {
            PosterTypes x = new PosterTypes();
            Edges.poster(x, 1);
            return x;
        }, x -> x.set(0));
        Edges.answered("set(1) of a poster as tall as the fount", 0, () -> tall(10), x -> x.set(1));
        Edges.refused("set(1) of a poster taller than the fount", Edges.STATE, () -> tall(11), x -> x.set(1));
    }

    private static PosterTypes tall(int tall) {
        PosterTypes x = with(1);
        Edges.posterFor(x, 0, tall, 1);
        return x;
    }

    // ---- promise 10

    @Sentence(promise = 10, words = "Prints copies of a poster.")
    static void printIsOfThePosterAlone() {
        for (int poster = 0; poster < 6; poster++) {
            PosterTypes x = sixSet();
            x.print(poster, 70);
            for (int i = 0; i < 6; i++) {
                String behind = " behind print(" + poster + ", 70)";
                Edges.due("told(" + i + ", 6)" + behind, i == poster ? 70 : 0, x.told(i, 6));
                Edges.due("block(0, " + i + ", 2)" + behind, i == poster ? 70 : 0, x.block(0, i, 2));
                Edges.due("told(" + i + ", 4)" + behind, 1, x.told(i, 4));
            }
        }
    }

    @Sentence(promise = 10, words = "Returns how many coins the shop gets.")
    static void printTellsTheCoins() {
        PosterTypes x = set(1);
        Edges.due("print(0, 3) with a proof of 30", 0, x.print(0, 3));
        Edges.due("print(0, 4) with a proof of 30", 1, x.print(0, 4));
        Edges.due("print(0, 500) with a proof of 30", 150, x.print(0, 500));
        Edges.due("count(3)", 151, x.count(3));
        x.setTown(0, 0, 0);
        Edges.due("print(0, 500) for a town that pays nothing", 0, x.print(0, 500));
        Edges.due("count(3)", 151, x.count(3));
    }

    @Sentence(promise = 10, words = {
        "poster: the poster",
        "Throws IndexOutOfBoundsException if there is no such poster"})
    static void printWantsAPoster() {
        Edges.answered("print(0, 500) with a proof of 30", 150, () -> set(1), x -> x.print(0, 500));
        Edges.answered("print(5, 10) with a proof of 30", 3, () -> {
            PosterTypes x = posters(6);
            x.line(5, 1);
            x.set(5);
            return x;
        }, x -> x.print(5, 10));
        for (int copies : new int[] {1, 500, 0, 501}) {
            for (int poster : new int[] {-1, 6, Integer.MIN_VALUE, Integer.MAX_VALUE}) {
                Edges.refused("print(" + poster + ", " + copies + ")", Edges.INDEX, Edges::full,
                    x -> x.print(poster, copies));
            }
            Edges.refused("print(0, " + copies + ") without posters", Edges.INDEX, PosterTypes::new,
                x -> x.print(0, copies));
            Edges.refused("print(1, " + copies + ") with one", Edges.INDEX, () -> set(1), x -> x.print(1, copies));
        }
    }

    @Sentence(promise = 10, words = {
        "copies: how many",
        "Throws IllegalArgumentException if copies is not 1 to 500"})
    static void printIsOf1To500() {
        int[][] coins = {{1, 0}, {2, 0}, {499, 149}, {500, 150}};
        for (int[] pair : coins) {
            Edges.answered("print(0, " + pair[0] + ")", pair[1], () -> set(1), x -> x.print(0, pair[0]));
            Edges.answered("told(0, 6) behind it", pair[0], () -> set(1), x -> {
                x.print(0, pair[0]);
                return x.told(0, 6);
            });
        }
        for (int copies : NOT_1_TO_500) {
            Edges.refused("print(0, " + copies + ")", Edges.ARGUMENT, () -> set(1), x -> x.print(0, copies));
            Edges.refused("print(0, " + copies + ") of a poster that is not set", Edges.ARGUMENT, () -> with(1),
                x -> x.print(0, copies));
            Edges.refused("print(0, " + copies + ") of a struck poster", Edges.ARGUMENT, () -> struck(1),
                x -> x.print(0, copies));
        }
    }

    @Sentence(promise = 10, words = "Throws IllegalStateException if it is not set")
    static void printIsForASetPoster() {
        for (int copies : new int[] {1, 500}) {
            String call = "print(0, " + copies + ")";
            Edges.refused(call + " of a poster without lines", Edges.STATE, () -> posters(1), x -> x.print(0, copies));
            Edges.refused(call + " of a poster that is not set", Edges.STATE, () -> with(1), x -> x.print(0, copies));
            Edges.refused(call + " of a struck poster", Edges.STATE, () -> struck(1), x -> x.print(0, copies));
            Edges.refused(call + " of a poster that cannot be set", Edges.STATE, () -> with(111),
                x -> x.print(0, copies));
        }
        Edges.answered("print(0, 10) of a poster that is set again", 3, () -> {
            PosterTypes x = struck(1);
            x.set(0);
            return x;
        }, x -> x.print(0, 10));
    }

    // ---- promise 11

    @Sentence(promise = 11, words = "Strikes a poster.")
    static void strikeIsOfThePosterAlone() {
        for (int poster = 0; poster < 6; poster++) {
            PosterTypes x = sixSet();
            x.strike(poster);
            for (int i = 0; i < 6; i++) {
                String behind = " behind strike(" + poster + ")";
                Edges.due("told(" + i + ", 4)" + behind, i == poster ? 0 : 1, x.told(i, 4));
                Edges.due("about(" + i + ", 0, 3)" + behind, i == poster ? -1 : i, x.about(i, 0, 3));
                Edges.due("block(0, " + i + ", 1)" + behind, i == poster ? 1 : 0, x.block(0, i, 1));
            }
        }
    }

    @Sentence(promise = 11, words = "Returns how many blocks break.")
    static void strikeTellsHowManyBreak() {
        Edges.answered("strike(0) without wear", 0, () -> set(1), x -> x.strike(0));
        Edges.answered("strike(0) with a wear of 399", 0, () -> worn(399), x -> x.strike(0));
        Edges.answered("strike(0) with a wear of 400 of two letters", 2, () -> worn(400), x -> x.strike(0));
        Edges.answered("strike(0) with a wear of 799", 2, () -> worn(799), x -> x.strike(0));
        Edges.answered("strike(0) with a wear of 800", 4, () -> worn(800), x -> x.strike(0));
        Edges.answered("strike(0) with a wear of 1200 and 2 blocks of each", 4, () -> worn(1200), x -> x.strike(0));
        Edges.answered("strike(0) that breaks as many as there may be out", 32, EdgesOfPosters::allWorn,
            x -> x.strike(0));
        Edges.answered("count(4) behind it", 32, EdgesOfPosters::allWorn, x -> {
            x.strike(0);
            return x.count(4);
        });
    }

    private static PosterTypes worn(int wear) {
        PosterTypes x = set(12);
        for (int rest = wear; rest > 0; rest -= 500) {
            x.print(0, Math.min(500, rest));
        }
        return x;
    }

    /** A poster of 4 lines of 8 letters, each block worn by 400, with others free beside them. */
    private static PosterTypes allWorn() {
        PosterTypes x = Edges.founts(1, 9);
        Edges.poster(x, 12345678, 12345678, 12345678, 12345678);
        x.set(0);
        x.print(0, 400);
        return x;
    }

    @Sentence(promise = 11, words = {
        "poster: the poster",
        "Throws IndexOutOfBoundsException if there is no such poster"})
    static void strikeWantsAPoster() {
        Edges.answered("strike(0)", 0, Edges::full, x -> x.strike(0));
        Edges.answered("strike(5)", 0, () -> {
            PosterTypes x = posters(6);
            x.line(5, 1);
            x.set(5);
            return x;
        }, x -> x.strike(5));
        for (int poster : new int[] {-1, 6, Integer.MIN_VALUE, Integer.MAX_VALUE}) {
            Edges.refused("strike(" + poster + ")", Edges.INDEX, Edges::full, x -> x.strike(poster));
        }
        Edges.refused("strike(0) without posters", Edges.INDEX, PosterTypes::new, x -> x.strike(0));
        Edges.refused("strike(1) with one", Edges.INDEX, () -> set(1), x -> x.strike(1));
    }

    @Sentence(promise = 11, words = "Throws IllegalStateException if it is not set")
    static void strikeIsForASetPoster() {
        Edges.refused("strike(0) without lines", Edges.STATE, () -> posters(1), x -> x.strike(0));
        Edges.refused("strike(0) ahead of the setting", Edges.STATE, () -> with(1), x -> x.strike(0));
        Edges.refused("strike(0) again", Edges.STATE, () -> struck(1), x -> x.strike(0));
        Edges.refused("strike(1) while worn blocks are free", Edges.STATE, () -> {
            PosterTypes x = worn(500);
            x.poster(0, 1);
            x.buyAll(0, 2);
            return x;
        }, x -> x.strike(1));
        Edges.answered("strike(0) of a poster that is set again", 0, () -> {
            PosterTypes x = struck(1);
            x.set(0);
            return x;
        }, x -> x.strike(0));
    }
}
