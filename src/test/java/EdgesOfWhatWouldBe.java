import java.math.BigInteger;

/** The edges of promises 16 to 21: would, next, advise, lasts, mean and digest. */
final class EdgesOfWhatWouldBe {
    private static final int[] FAR = {Integer.MIN_VALUE, Integer.MAX_VALUE};

    private EdgesOfWhatWouldBe() {
    }

    /** One fount of height 10 with so many blocks of a letter, and none of others. */
    private static PosterTypes blocks(int letter, int many) {
        PosterTypes x = Edges.founts(1, 0);
        x.buy(0, letter, many);
        return x;
    }

    private static PosterTypes with(int letter, int many, int... words) {
        PosterTypes x = blocks(letter, many);
        Edges.poster(x, words);
        return x;
    }

    // ---- promise 16

    @Sentence(promise = 16, words = "what: 0 what its proof would be, 1 its flaws, if it was set now; -1 for"
        + " both")
    static void wouldTellsProofAndFlaws() {
        int[][] towns = {{3, 5, 50}, {0, 0, 0}, {9, 0, 180}, {9, 30, 120}, {1, 9, 2}, {1, 10, 0}, {1, 11, 0}};
        for (int[] row : towns) {
            PosterTypes x = with(3, 2, 77);
            x.setOther(7, 3);
            x.setTown(0, row[0], row[1]);
            Edges.due("would(0, 0), pay " + row[0] + ", strict " + row[1], row[2], x.would(0, 0));
            Edges.due("would(0, 1)", 2, x.would(0, 1));
            Edges.due("set(0)", 2, x.set(0));
            Edges.due("told(0, 7) when it is set", row[2], x.told(0, 7));
        }
        PosterTypes y = with(7, 2, 77);
        Edges.due("would(0, 0) without flaws", 60, y.would(0, 0));
        Edges.due("would(0, 1) without flaws", 0, y.would(0, 1));
    }

    private static void dueNone(String when, Edges.Shop shop) {
        Edges.answered("would(0, 0) " + when, -1, shop, x -> x.would(0, 0));
        Edges.answered("would(0, 1) " + when, -1, shop, x -> x.would(0, 1));
    }

    @Sentence(promise = 16, words = "-1 for both, if it is set already")
    static void wouldOfASetPoster() {
        dueNone("set already", () -> {
            PosterTypes x = with(7, 9, 77);
            x.set(0);
            return x;
        });
        Edges.answered("would(0, 1) struck", 0, () -> {
            PosterTypes x = with(7, 9, 77);
            x.set(0);
            x.strike(0);
            return x;
        }, x -> x.would(0, 1));
        Edges.answered("would(0, 0) beside a set poster with the same lines", 60, () -> {
            PosterTypes x = with(7, 9, 77);
            x.set(Edges.poster(x, 77));
            return x;
        }, x -> x.would(0, 0));
    }

    @Sentence(promise = 16, words = "has no line")
    static void wouldOfAPosterWithoutLines() {
        dueNone("without lines", () -> {
            PosterTypes x = blocks(7, 9);
            x.poster(0, 1);
            return x;
        });
        Edges.answered("would(0, 0) with a line", 30, () -> with(7, 9, 7), x -> x.would(0, 0));
        Edges.answered("would(0, 1) with a line", 0, () -> with(7, 9, 7), x -> x.would(0, 1));
    }

    @Sentence(promise = 16, words = "or cannot be set")
    static void wouldOfAPosterThatCannotBeSet() {
        dueNone("of 777 with 2 blocks", () -> with(7, 2, 777));
        dueNone("of 77, 7 with 2 blocks", () -> with(7, 2, 77, 7));
        dueNone("of 7 with 1 block that is out", () -> {
            PosterTypes x = with(7, 1, 7);
            x.set(Edges.poster(x, 7));
            return x;
        });
        dueNone("without founts", () -> {
            PosterTypes x = new PosterTypes();
            Edges.poster(x, 7);
            return x;
        });
        dueNone("of a poster higher than all founts", () -> {
            PosterTypes x = blocks(7, 9);
            Edges.posterFor(x, 0, 11, 7);
            return x;
        });
        Edges.answered("would(0, 1) of 77 with 2 blocks", 0, () -> with(7, 2, 77), x -> x.would(0, 1));
        Edges.answered("would(0, 1) of 77, 7 with 3 blocks", 0, () -> with(7, 3, 77, 7), x -> x.would(0, 1));
    }

    @Sentence(promise = 16, words = "Returns this (nothing is changed).")
    static void wouldChangesNothing() {
        for (int i = 0; i < 10; i++) {
            int poster = i / 2;
            int what = i % 2;
            Edges.changesNothing("would(" + poster + ", " + what + ")", Edges::busy, x -> x.would(poster, what));
        }
        Edges.changesNothing("would(5, 0)", Edges::full, x -> x.would(5, 0));
    }

    @Sentence(promise = 16, words = {
        "poster: a poster",
        "Throws IndexOutOfBoundsException if there is no such poster, or what is not 0 or 1"})
    static void wouldWantsAPosterAndWhat() {
        for (int what : new int[] {0, 1}) {
            Edges.answered("would(0, " + what + ")", -1, Edges::full, x -> x.would(0, what));
            Edges.answered("would(5, " + what + ")", -1, Edges::full, x -> x.would(5, what));
            for (int poster : new int[] {-1, 6, FAR[0], FAR[1]}) {
                Edges.refused("would(" + poster + ", " + what + ")", Edges.INDEX, Edges::full,
                    x -> x.would(poster, what));
            }
            Edges.refused("would(0, " + what + ") without posters", Edges.INDEX, PosterTypes::new,
                x -> x.would(0, what));
            Edges.refused("would(1, " + what + ") with one", Edges.INDEX, () -> with(7, 1, 7), x -> x.would(1, what));
        }
        for (int what : new int[] {-1, 2, FAR[0], FAR[1]}) {
            for (int i = 0; i < 5; i++) {
                int poster = i;
                Edges.refused("would(" + poster + ", " + what + ")", Edges.INDEX, Edges::busy,
                    x -> x.would(poster, what));
            }
        }
    }

    // ---- promise 17

    /** As many posters as there may be, each with a word of 7s; the fount has 9 blocks of the letter. */
    private static PosterTypes sevens(int... words) {
        PosterTypes x = blocks(7, 9);
        for (int i = 0; i < words.length; i++) {
            Edges.posterFor(x, i % 4, 1, words[i]);
        }
        return x;
    }

    @Sentence(promise = 17, words = "Returns the poster that had best be set next: with the greatest proof that"
        + " would(.., 0) tells")
    static void nextIsOfTheGreatestProof() {
        for (int i = 0; i < 6; i++) {
            int[] words = {7, 7, 7, 7, 7, 7};
            words[i] = 77;
            Edges.answered("next() when poster " + i + " has a letter more", i, () -> sevens(words), PosterTypes::next);
        }
        Edges.answered("next() of ever greater ones", 5, () -> sevens(7, 77, 777, 7777, 77777, 777777),
            PosterTypes::next);
        Edges.answered("next() of ever smaller ones", 0, () -> sevens(777777, 77777, 7777, 777, 77, 7),
            PosterTypes::next);
        Edges.answered("next() with a proof of 0 and one of -1", 1, () -> {
            PosterTypes x = sevens(8, 7);
            x.setTown(1, 0, 0);
            return x;
        }, PosterTypes::next);
        Edges.answered("next() by what towns pay now", 2, () -> {
            PosterTypes x = sevens(7, 7, 7);
            x.setTown(2, 4, 0);
            return x;
        }, PosterTypes::next);
        Edges.answered("next() with flaws", 1, () -> {
            PosterTypes x = sevens(88, 77);
            x.setOther(8, 7);
            x.setTown(0, 3, 1);
            return x;
        }, PosterTypes::next);
    }

    @Sentence(promise = 17, words = "of several the smallest number")
    static void nextIsTheFirstOfSeveral() {
        PosterTypes x = sevens(7, 7, 7, 7, 7, 7);
        for (int poster = 0; poster < 6; poster++) {
            Edges.due("next() when those ahead of " + poster + " are set", poster, x.next());
            x.set(poster);
        }
        Edges.due("next() when all are set", -1, x.next());
        x.strike(4);
        x.strike(2);
        Edges.due("next() when 2 and 4 are struck", 2, x.next());
        Edges.answered("next() when all have a proof of 0", 1, () -> {
            PosterTypes y = sevens(7, 7, 77);
            for (int town = 0; town < 3; town++) {
                y.setTown(town, 0, 0);
            }
            y.set(0);
            return y;
        }, PosterTypes::next);
        Edges.answered("next() of two that are as great as can be", 3, () -> sevens(7, 77, 7, 777, 777),
            PosterTypes::next);
    }

    @Sentence(promise = 17, words = "-1 if none can be set")
    static void nextIsNone() {
        Edges.answered("next() of a new shop", -1, PosterTypes::new, PosterTypes::next);
        Edges.answered("next() with founts alone", -1, () -> Edges.founts(5, 9), PosterTypes::next);
        Edges.answered("next() without lines", -1, () -> {
            PosterTypes x = blocks(7, 9);
            for (int i = 0; i < 6; i++) {
                x.poster(0, 1);
            }
            return x;
        }, PosterTypes::next);
        Edges.answered("next() when all lack a block", -1, () -> sevens(8, 78, 8, 8, 8, 8), PosterTypes::next);
        Edges.answered("next() of a full shop", -1, Edges::full, PosterTypes::next);
        Edges.answered("next() when the last of 6 can be set", 5, () -> sevens(8, 8, 8, 8, 8, 7), PosterTypes::next);
        Edges.answered("next() when the last of 6 can be set for nothing", 5, () -> {
            PosterTypes x = sevens(8, 8, 8, 8, 8, 7);
            x.setTown(1, 0, 30);
            return x;
        }, PosterTypes::next);
    }

    @Sentence(promise = 17, words = "(nothing is changed)")
    static void nextChangesNothing() {
        Edges.changesNothing("next()", PosterTypes::new, PosterTypes::next);
        Edges.changesNothing("next()", Edges::busy, PosterTypes::next);
        Edges.changesNothing("next()", Edges::full, PosterTypes::next);
    }

    // ---- promise 18

    @Sentence(promise = 18, words = "so that a poster can be set now with the fewest flaws.")
    static void adviseIsForTheFewestFlaws() {
        Edges.answered("advise(0): 0 makes it possible with a flaw, 9 without", 9, () -> {
            PosterTypes x = with(1, 1, 19);
            x.setOther(9, 0);
            return x;
        }, x -> x.advise(0));
        Edges.answered("advise(0): 3 flaws without, 1 with fount 1", 11, () -> {
            PosterTypes x = new PosterTypes();
            x.fount(20);
            x.fount(5);
            x.setOther(1, 2);
            x.buy(0, 2, 3);
            x.buy(1, 1, 1);
            x.buy(1, 2, 1);
            Edges.poster(x, 111);
            return x;
        }, x -> x.advise(0));
        Edges.answered("advise(0) of two lines: one block for the second", 3, () -> {
            PosterTypes x = Edges.founts(1, 1);
            Edges.poster(x, 123, 3);
            return x;
        }, x -> x.advise(0));
    }

    @Sentence(promise = 18, words = "Looks for the block that had best be bought, one alone")
    static void adviseIsOfOneBlockAlone() {
        Edges.answered("advise(0) of 7 without blocks", 7, () -> with(1, 1, 7), x -> x.advise(0));
        Edges.answered("advise(0) of 77 without blocks", -1, () -> with(1, 1, 77), x -> x.advise(0));
        Edges.answered("advise(0) of 78 without blocks", -1, () -> with(1, 1, 78), x -> x.advise(0));
        Edges.answered("advise(0) of 78 with one of 7", 8, () -> with(7, 1, 78), x -> x.advise(0));
        Edges.answered("advise(0) of 7777 with three of 7", 7, () -> with(7, 3, 7777), x -> x.advise(0));
        Edges.answered("advise(0) of 7777 with two of 7", -1, () -> with(7, 2, 7777), x -> x.advise(0));
    }

    @Sentence(promise = 18, words = "Returns 10 times its fount, and its letter, added; of several the smallest")
    static void adviseIsTheSmallestOfSeveral() {
        for (int i = 0; i < 50; i++) {
            int fount = i / 10;
            int letter = i % 10;
            int word = letter;
            PosterTypes x = new PosterTypes();
            for (int j = 0; j < 5; j++) {
                x.fount(j < fount ? 9 : 10);
            }
            Edges.posterFor(x, 0, 10, word);
            Edges.due("advise(0) of " + word + " when fount " + fount + " is the first", i, x.advise(0));
        }
        PosterTypes y = new PosterTypes();
        y.fount(3);
        y.fount(20);
        Edges.poster(y, 4);
        Edges.due("advise(0): not the highest, but the smallest", 4, y.advise(0));
        PosterTypes z = Edges.founts(2, 0);
        z.buy(0, 5, 2);
        z.buy(1, 1, 1);
        z.buy(1, 2, 1);
        z.setOther(1, 5);
        z.setOther(2, 5);
        z.setOther(3, 5);
        Edges.poster(z, 123);
        Edges.due("advise(0): 1 makes it of fount 0 with two flaws, 13 without", 13, z.advise(0));
        PosterTypes w = with(5, 2, 21);
        w.setOther(1, 5);
        w.setOther(2, 5);
        Edges.due("advise(0): 1 and 2 mend a flaw each", 1, w.advise(0));
    }

    @Sentence(promise = 18, words = "-1 if by none it could be set now with fewer flaws than without")
    static void adviseIsNoneIfNoFewerFlaws() {
        Edges.answered("advise(0) without flaws", -1, () -> with(7, 1, 7), x -> x.advise(0));
        Edges.answered("advise(0) with a flaw", 8, () -> {
            PosterTypes x = with(7, 1, 8);
            x.setOther(8, 7);
            return x;
        }, x -> x.advise(0));
        Edges.answered("advise(0) when a higher fount would do as well", -1, () -> {
            PosterTypes x = with(7, 1, 7);
            x.fount(20);
            return x;
        }, x -> x.advise(0));
        Edges.answered("advise(0) with a flaw and two lacking in a lower fount", 8, () -> {
            PosterTypes x = with(7, 2, 88);
            x.setOther(8, 7);
            x.fount(1);
            return x;
        }, x -> x.advise(0));
        Edges.answered("advise(0) without lines", -1, () -> with(7, 1), x -> x.advise(0));
        Edges.answered("advise(0) set already, with a flaw", -1, () -> {
            PosterTypes x = with(7, 1, 8);
            x.setOther(8, 7);
            x.set(0);
            return x;
        }, x -> x.advise(0));
    }

    @Sentence(promise = 18, words = "(or at all, if it cannot be set without)")
    static void adviseIsNoneIfItCannotBeSet() {
        Edges.answered("advise(0) without founts", -1, () -> {
            PosterTypes x = new PosterTypes();
            Edges.poster(x, 7);
            return x;
        }, x -> x.advise(0));
        Edges.answered("advise(0) of a poster as high as the fount", 7, () -> tall(10), x -> x.advise(0));
        Edges.answered("advise(0) of a poster higher than the fount", -1, () -> tall(11), x -> x.advise(0));
        Edges.answered("advise(0): it can be set at all, with as many flaws as letters", 0, () -> {
            PosterTypes x = with(0, 3, 5555);
            x.setOther(5, 0);
            return x;
        }, x -> {
            x.buy(0, 5, 9);
            x.set(Edges.poster(x, 55555555, 5));
            return x.advise(0);
        });
        Edges.answered("advise(0) when a line lacks two in each fount", -1, () -> {
            PosterTypes x = Edges.founts(5, 1);
            Edges.poster(x, 777);
            return x;
        }, x -> x.advise(0));
    }

    private static PosterTypes tall(int tall) {
        PosterTypes x = blocks(1, 1);
        Edges.posterFor(x, 0, tall, 7);
        return x;
    }

    /** Poster 0 wants a 7, of which there are so many that another poster has out, all. */
    private static PosterTypes sevensOut(int many) {
        PosterTypes x = with(7, many, 7);
        x.set(Edges.posterOf(x, 7, many));
        return x;
    }

    @Sentence(promise = 18, words = "letters with 9 blocks do not count")
    static void adviseIsNotOfALetterWith9Blocks() {
        for (int many = 1; many <= 9; many++) {
            int blocks = many;
            Edges.answered("advise(0) when all " + blocks + " blocks are out", blocks < 9 ? 7 : -1,
                () -> sevensOut(blocks), x -> x.advise(0));
        }
        Edges.answered("advise(0) when 6 may stand in for 9 blocks that are out", 6, () -> {
            PosterTypes x = sevensOut(9);
            x.setOther(7, 6);
            return x;
        }, x -> x.advise(0));
        Edges.answered("advise(0) when another fount has fewer", 17, () -> {
            PosterTypes x = sevensOut(9);
            x.fount(1);
            return x;
        }, x -> x.advise(0));
        Edges.answered("advise(0) when 9 broke", 7, () -> {
            PosterTypes x = sevensOut(9);
            x.print(1, 400);
            x.strike(1);
            return x;
        }, x -> x.advise(0));
        Edges.answered("advise(5) of a full shop", -1, Edges::full, x -> x.advise(5));
    }

    @Sentence(promise = 18, words = "letters with 9 blocks do not count (nothing is changed).")
    static void adviseChangesNothing() {
        for (int i = 0; i < 5; i++) {
            int poster = i;
            Edges.changesNothing("advise(" + poster + ")", Edges::busy, x -> x.advise(poster));
            Edges.changesNothing("advise(" + poster + ")", Edges::full, x -> x.advise(poster));
        }
        Edges.changesNothing("advise(5)", Edges::full, x -> x.advise(5));
    }

    @Sentence(promise = 18, words = {
        "poster: the poster",
        "Throws IndexOutOfBoundsException if there is no such poster"})
    static void adviseWantsAPoster() {
        Edges.answered("advise(0)", -1, Edges::full, x -> x.advise(0));
        Edges.answered("advise(5)", -1, Edges::full, x -> x.advise(5));
        for (int poster : new int[] {-1, 6, FAR[0], FAR[1]}) {
            Edges.refused("advise(" + poster + ")", Edges.INDEX, Edges::full, x -> x.advise(poster));
        }
        Edges.refused("advise(0) without posters", Edges.INDEX, PosterTypes::new, x -> x.advise(0));
        Edges.refused("advise(1) with one", Edges.INDEX, () -> with(7, 1, 7), x -> x.advise(1));
    }

    // ---- promise 19

    /** Poster 0 has so many 7s out, which are worn so much, less than 400, by a poster that is struck then. */
    private static PosterTypes worn(int out, int wear) {
        PosterTypes x = blocks(7, out);
        Edges.posterOf(x, 7, out);
        int other = Edges.poster(x, 7);
        x.set(other);
        if (wear > 0) {
            x.print(other, wear);
        }
        x.strike(other);
        x.set(0);
        return x;
    }

    @Sentence(promise = 19, words = "Returns how many copies of it, printed from now on without others, are the fewest"
        + " with which some letter that it has out, in its fount, has a wear of 400 or more")
    static void lastsIsTheFewestCopies() {
        int[] wears = {0, 1, 2, 199, 200, 201, 391, 392, 396, 397, 398, 399};
        for (int i = 1; i <= 9; i++) {
            for (int wear : wears) {
                int out = i;
                int want = 0;
                while (wear + want * out < 400) {
                    want++;
                }
                int lasts = want;
                String shop = " with " + out + " blocks out and a wear of " + wear;
                Edges.Shop set = () -> worn(out, wear);
                Edges.answered("lasts(0)" + shop, lasts, set, x -> x.lasts(0));
                Edges.answered("lasts(0) behind as many copies" + shop, 0, set, x -> {
                    x.print(0, lasts);
                    return x.lasts(0);
                });
                if (lasts > 1) {
                    Edges.answered("lasts(0) behind one copy fewer" + shop, 1, set, x -> {
                        x.print(0, lasts - 1);
                        return x.lasts(0);
                    });
                }
            }
        }
    }

    @Sentence(promise = 19, words = "some letter that it has out, in its fount")
    static void lastsIsByItsLettersAlone() {
        PosterTypes x = Edges.founts(2, 1);
        x.set(Edges.poster(x, 12, 1));
        Edges.due("the fount of the first line", 0, x.about(0, 0, 1));
        Edges.due("the fount of the second line", 1, x.about(0, 1, 1));
        Edges.due("lasts(0) with one block of 1 in each fount", 400, x.lasts(0));
        x.set(Edges.poster(x, 30));
        x.print(1, 500);
        Edges.due("lasts(0) beside letters of another poster that are worn", 400, x.lasts(0));
        Edges.due("lasts(1)", 0, x.lasts(1));
        x.set(Edges.poster(x, 2));
        x.print(2, 300);
        Edges.due("lasts(0) when 2 of the other fount is worn", 400, x.lasts(0));
        Edges.due("lasts(2)", 100, x.lasts(2));
        x.print(0, 150);
        Edges.due("lasts(0)", 250, x.lasts(0));
        Edges.due("lasts(2) of the other fount", 100, x.lasts(2));
        PosterTypes y = Edges.founts(1, 9);
        y.set(Edges.poster(y, 1, 22, 333, 4444));
        Edges.due("lasts(0) by the letter with most blocks", 100, y.lasts(0));
        y.set(Edges.poster(y, 1));
        y.print(1, 350);
        Edges.due("lasts(0) by the letter that is worn most", 50, y.lasts(0));
        PosterTypes z = with(3, 4, 77);
        z.setOther(7, 3);
        z.set(0);
        Edges.due("lasts(0) by the letter that stands in", 200, z.lasts(0));
    }

    @Sentence(promise = 19, words = "some letter that it has out, in its fount")
    static void lastsIsByEachLetterOfEachFount() {
        for (int fount = 0; fount < 5; fount++) {
            for (int letter = 0; letter < 10; letter++) {
                PosterTypes x = Edges.founts(5, 0);
                x.buy(fount, letter, 3);
                Edges.poster(x, letter, letter);
                x.set(0);
                Edges.due("lasts(0) with two blocks of " + letter + " of fount " + fount, 200, x.lasts(0));
                x.print(0, 170);
                Edges.due("lasts(0) behind print(0, 170)", 30, x.lasts(0));
            }
        }
    }

    @Sentence(promise = 19, words = "0 if so now, at most 400.")
    static void lastsIs0To400() {
        int[][] runs = {{0, 400}, {1, 399}, {398, 2}, {399, 1}, {400, 0}, {401, 0}, {500, 0}};
        for (int[] run : runs) {
            Edges.answered("lasts(0) of one block behind " + run[0] + " copies", run[1], () -> {
                PosterTypes x = with(7, 9, 7);
                x.set(0);
                return x;
            }, x -> {
                if (run[0] > 0) {
                    x.print(0, run[0]);
                }
                return x.lasts(0);
            });
        }
        PosterTypes y = with(7, 1, 7);
        y.set(0);
        for (int i = 0; i < 100; i++) {
            y.print(0, 500);
        }
        Edges.due("lasts(0) with a wear of 50000", 0, y.lasts(0));
        Edges.answered("lasts(0) with 9 blocks out", 45, () -> {
            PosterTypes x = with(7, 9, 77777777, 7);
            x.set(0);
            return x;
        }, x -> x.lasts(0));
        PosterTypes z = with(7, 2, 7);
        z.set(0);
        z.print(0, 500);
        z.print(0, 500);
        z.print(0, 500);
        z.strike(0);
        Edges.due("blocks when both broke", 0, z.block(0, 7, 0));
        z.buy(0, 7, 1);
        z.set(0);
        Edges.due("lasts(0) of a bought block, with a wear of 700 left", 0, z.lasts(0));
    }

    @Sentence(promise = 19, words = {
        "poster: a poster",
        "Throws IndexOutOfBoundsException if there is no such poster"})
    static void lastsWantsAPoster() {
        Edges.answered("lasts(0)", 50, Edges::full, x -> x.lasts(0));
        Edges.answered("lasts(5)", 400, () -> {
            PosterTypes x = sevens(7, 7, 7, 7, 7, 7);
            x.set(5);
            return x;
        }, x -> x.lasts(5));
        for (int poster : new int[] {-1, 6, FAR[0], FAR[1]}) {
            Edges.refused("lasts(" + poster + ")", Edges.INDEX, Edges::full, x -> x.lasts(poster));
        }
        Edges.refused("lasts(0) without posters", Edges.INDEX, PosterTypes::new, x -> x.lasts(0));
        Edges.refused("lasts(1) with one", Edges.INDEX, () -> with(7, 1, 7), x -> x.lasts(1));
    }

    @Sentence(promise = 19, words = "Throws IllegalStateException if it is not set")
    static void lastsIsForASetPoster() {
        Edges.refused("lasts(0) without lines", Edges.STATE, () -> with(7, 1), x -> x.lasts(0));
        Edges.refused("lasts(0) ahead of the setting", Edges.STATE, () -> with(7, 1, 7), x -> x.lasts(0));
        Edges.refused("lasts(0) struck", Edges.STATE, () -> {
            PosterTypes x = with(7, 1, 7);
            x.set(0);
            x.strike(0);
            return x;
        }, x -> x.lasts(0));
        Edges.refused("lasts(5)", Edges.STATE, Edges::full, x -> x.lasts(5));
        Edges.changesNothing("lasts(0)", Edges::busy, x -> x.lasts(0));
        Edges.changesNothing("lasts(4)", Edges::full, x -> x.lasts(4));
    }

    // ---- promise 20

    @Sentence(promise = 20, words = "Returns the flaws of all posters that are set, divided by their letters")
    static void meanIsOfAllSetPosters() {
        PosterTypes x = blocks(7, 9);
        x.setOther(8, 7);
        Edges.poster(x, 8);
        Edges.poster(x, 77);
        Edges.poster(x, 788, 7);
        Edges.poster(x, 88);
        x.set(0);
        Edges.dueDouble("mean() of a flaw and a letter", 1.0, x.mean());
        x.set(1);
        Edges.dueDouble("mean() of a flaw and three letters", 1.0 / 3.0, x.mean());
        x.set(2);
        Edges.dueDouble("mean() of 3 flaws and 7 letters", 3.0 / 7.0, x.mean());
        x.set(3);
        Edges.dueDouble("mean() of 5 flaws and 9 letters", 5.0 / 9.0, x.mean());
        x.setOther(8, -1);
        Edges.dueDouble("mean() when none may stand in any more", 5.0 / 9.0, x.mean());
        x.strike(1);
        Edges.dueDouble("mean() of 5 flaws and 7 letters", 5.0 / 7.0, x.mean());
        x.strike(0);
        x.strike(3);
        Edges.dueDouble("mean() of 2 flaws and 4 letters", 0.5, x.mean());
        Edges.dueDouble("mean() of a full shop, without flaws", 0.0, Edges.full().mean());
        Edges.dueDouble("mean() of one flaw and 4 letters", 0.25, Edges.busy().mean());
    }

    @Sentence(promise = 20, words = "0 without any.")
    static void meanIs0WithoutAny() {
        Edges.dueDouble("mean() of a new shop", 0.0, new PosterTypes().mean());
        Edges.dueDouble("mean() of a poster without lines", 0.0, with(7, 1).mean());
        PosterTypes x = with(7, 1, 8);
        x.setOther(8, 7);
        Edges.dueDouble("mean() ahead of the setting", 0.0, x.mean());
        x.would(0, 1);
        Edges.dueDouble("mean() behind would", 0.0, x.mean());
        x.set(0);
        Edges.dueDouble("mean() set", 1.0, x.mean());
        x.strike(0);
        Edges.dueDouble("mean() struck", 0.0, x.mean());
        Edges.changesNothing("mean()", Edges::busy, PosterTypes::mean);
    }

    // ---- promise 21

    @Sentence(promise = 21, words = "Computes a checksum. A number d starts with 1721; for each of the"
        + " following numbers x, d becomes d * 31 + x, which wraps around as a 64-bit integer")
    static void digestWrapsAround() {
        BigInteger d = ofNewShop();
        Edges.due("the checksum of a new shop does not fit into 64 bits", 1, d.bitLength() > 64 ? 1 : 0);
        Edges.due("digest() of a new shop", d.longValue(), new PosterTypes().digest());
    }

    private static BigInteger ofNewShop() {
        BigInteger d = BigInteger.valueOf(1721);
        for (int i = 0; i < 7; i++) {
            d = mixed(d, 0);
        }
        for (int i = 0; i < 10; i++) {
            d = mixed(d, -1);
        }
        return d;
    }

    private static BigInteger mixed(BigInteger d, long x) {
        return d.multiply(BigInteger.valueOf(31)).add(BigInteger.valueOf(x));
    }

    @Sentence(promise = 21, words = "for each letter the other one, or -1")
    static void digestOfOtherLetters() {
        for (int i = 0; i < 10; i++) {
            for (int j = 0; j < 10; j++) {
                if (i != j) {
                    PosterTypes x = new PosterTypes();
                    x.setOther(i, j);
                    BigInteger d = BigInteger.valueOf(1721).multiply(BigInteger.valueOf(31).pow(7));
                    for (int letter = 0; letter < 10; letter++) {
                        d = mixed(d, letter == i ? j : -1);
                    }
                    Edges.due("digest() behind setOther(" + i + ", " + j + ")", d.longValue(), x.digest());
                    x.setOther(i, -1);
                    Edges.due("digest() when there is none again", ofNewShop().longValue(), x.digest());
                }
            }
        }
    }

    @Sentence(promise = 21, words = {
        "what count() tells, in its order",
        "for each fount its height, then for each letter what block() tells; for each poster what told()"
        + " tells, then for each of its lines what about() tells (all in their order)",
        "Returns d."})
    static void digestOfAll() {
        int[] none = {-1, -1, -1, -1, -1, -1, -1, -1, -1, -1};
        dueDigest("of a full shop", Edges.full(), none, 20, 20, 20, 20, 20);
        dueDigest("of a full shop that printed", fullAndPrinted(), none, 20, 20, 20, 20, 20);
        PosterTypes struck = fullAndPrinted();
        struck.strike(2);
        dueDigest("of a full shop that struck", struck, none, 20, 20, 20, 20, 20);
        int[] busy = {9, 2, -1, -1, -1, -1, -1, -1, -1, -1};
        dueDigest("of a busy shop", Edges.busy(), busy, 8, 12);
        dueDigest("of founts alone", Edges.founts(5, 9), none, 10, 10, 10, 10, 10);
        PosterTypes posters = new PosterTypes();
        posters.poster(3, 20);
        posters.poster(0, 1);
        posters.line(1, 0);
        dueDigest("of posters alone", posters, none);
        PosterTypes heights = new PosterTypes();
        heights.fount(1);
        heights.fount(20);
        dueDigest("of founts without blocks", heights, none, 1, 20);
        Edges.changesNothing("digest()", Edges::busy, PosterTypes::digest);
    }

    private static PosterTypes fullAndPrinted() {
        PosterTypes x = Edges.full();
        x.print(2, 500);
        x.print(4, 1);
        return x;
    }

    private static void dueDigest(String when, PosterTypes x, int[] others, int... heights) {
        BigInteger d = BigInteger.valueOf(1721);
        for (int what = 0; what < 7; what++) {
            d = mixed(d, x.count(what));
        }
        for (int other : others) {
            d = mixed(d, other);
        }
        for (int fount = 0; fount < heights.length; fount++) {
            d = mixed(d, heights[fount]);
            for (int i = 0; i < 30; i++) {
                d = mixed(d, x.block(fount, i / 3, i % 3));
            }
        }
        int posters = x.count(1);
        for (int poster = 0; poster < posters; poster++) {
            for (int what = 0; what < 8; what++) {
                d = mixed(d, x.told(poster, what));
            }
            int lines = x.told(poster, 2);
            for (int i = 0; i < 4 * lines; i++) {
                d = mixed(d, x.about(poster, i / 4, i % 4));
            }
        }
        Edges.due("digest() " + when, d.longValue(), x.digest());
    }
}
