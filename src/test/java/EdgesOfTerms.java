/** The edges of what the document says ahead of its promises. */
final class EdgesOfTerms {
    private static final int[] FAR = {Integer.MIN_VALUE, Integer.MAX_VALUE};

    private EdgesOfTerms() {
    }

    // ---- What it is

    @Sentence(promise = 0, words = "An object is used for at most 512 calls after it has been made")
    static void callsThe512thWhichChanges() {
        PosterTypes x = Edges.founts(1, 9);
        Edges.poster(x, 11);
        x.set(0);
        for (int call = 6; call <= 511; call++) {
            Edges.due("call " + call + ", print(0, 500)", 2 * 10 * 3 * 500 / 100, x.print(0, 500));
        }
        Edges.due("call 512, block(0, 1, 2)", 506 * 2 * 500, x.block(0, 1, 2));
        PosterTypes y = Edges.founts(1, 1);
        Edges.poster(y, 1);
        for (int call = 5; call <= 512; call += 2) {
            Edges.due("call " + call + ", set(0)", 0, y.set(0));
            Edges.due("call " + (call + 1) + ", strike(0)", 0, y.strike(0));
        }
    }

    @Sentence(promise = 0, words = "An object is used for at most 512 calls after it has been made")
    static void callsThe512thWithAsManyCoinsAsThereCanBe() {
        PosterTypes x = greatest();
        for (int call = 16; call <= 511; call++) {
            Edges.due("call " + call + ", print(0, 500)", 28800, x.print(0, 500));
        }
        Edges.due("call 512, count(3)", 496 * 28800, x.count(3));
    }

    @Sentence(promise = 0, words = "An object is used for at most 512 calls after it has been made")
    static void callsThe512thWhichAsks() {
        PosterTypes x = Edges.founts(1, 0);
        x.buy(0, 1, 1);
        Edges.poster(x, 12);
        for (int call = 5; call <= 512; call++) {
            Edges.due("call " + call + ", advise(0)", 2, x.advise(0));
        }
        PosterTypes y = new PosterTypes();
        for (int call = 1; call <= 511; call++) {
            Edges.due("call " + call + ", next()", -1, y.next());
        }
        Edges.due("call 512, digest()", new PosterTypes().digest(), y.digest());
    }

    @Sentence(promise = 0, words = "An object is used for at most 512 calls after it has been made")
    static void callsThe512thWhichIsRefused() {
        Edges.Shop shop = () -> {
            PosterTypes x = new PosterTypes();
            for (int call = 1; call <= 511; call++) {
                x.count(0);
            }
            return x;
        };
        try {
            Edges.fault("call 512, told(0, 0), answered " + shop.made().told(0, 0));
        } catch (IndexOutOfBoundsException e) {
            Edges.due("fount(20) as call 512", 0, shop.made().fount(20));
        }
    }

    // ---- what the shop is for

    @Sentence(promise = 0, words = "Founts of several heights have blocks of each letter; posters rent them line by"
        + " line, as tall as is wanted, with other letters in the place of missing ones; printing wears blocks, and worn"
        + " ones break; towns pay by height, and less for wrong letters; and it is told which blocks are free and how"
        + " worn, how each line is set, what a poster is worth in proof, which one had best be set next, which block"
        + " would help it most, and how many copies its type will last.")
    static void shopDoesAllThatItIsFor() {
        PosterTypes x = new PosterTypes();
        x.fount(10);
        x.fount(20);
        x.buyAll(0, 2);
        x.buy(1, 1, 1);
        x.buy(1, 2, 1);
        x.setOther(3, 4);
        x.setTown(1, 5, 7);
        Edges.posterFor(x, 1, 20, 1);
        Edges.posterFor(x, 1, 10, 12, 333);
        Edges.due("next()", 1, x.next());
        Edges.due("set(1)", 1, x.set(1));
        Edges.due("about(1, 0, 1), the higher fount", 1, x.about(1, 0, 1));
        Edges.due("about(1, 1, 1), the lower fount", 0, x.about(1, 1, 1));
        Edges.due("about(1, 1, 3), with another letter", 334, x.about(1, 1, 3));
        Edges.due("block(0, 3, 1)", 0, x.block(0, 3, 1));
        Edges.due("block(0, 4, 1)", 1, x.block(0, 4, 1));
        Edges.due("told(1, 7)", (20 * 2 + 10 * 3) * 5 - 7, x.told(1, 7));
        Edges.due("advise(0)", 11, x.advise(0));
        Edges.due("lasts(1)", 200, x.lasts(1));
        Edges.due("print(1, 200)", 343 * 200 / 100, x.print(1, 200));
        Edges.due("block(0, 3, 2)", 400, x.block(0, 3, 2));
        Edges.due("block(0, 4, 2)", 200, x.block(0, 4, 2));
        Edges.due("strike(1)", 1, x.strike(1));
        Edges.due("block(0, 3, 0)", 1, x.block(0, 3, 0));
        Edges.due("next() behind it", 1, x.next());
        Edges.due("would(0, 0) behind it", 100, x.would(0, 0));
    }

    // ---- numbers, letters and words

    @Sentence(promise = 0, words = "All numbers are whole, and / is cut towards 0.")
    static void coinsAreCut() {
        PosterTypes x = new PosterTypes();
        x.fount(1);
        x.buy(0, 5, 1);
        x.setTown(0, 1, 0);
        Edges.poster(x, 5);
        x.set(0);
        int[][] coins = {{1, 0}, {99, 0}, {100, 1}, {101, 1}, {199, 1}, {200, 2}, {499, 4}, {500, 5}};
        int all = 0;
        for (int[] pair : coins) {
            Edges.due("print(0, " + pair[0] + ") with a proof of 1", pair[1], x.print(0, pair[0]));
            all += pair[1];
            Edges.due("count(3) then", all, x.count(3));
        }
    }

    @Sentence(promise = 0, words = "Letters. There are 10, 0 to 9.")
    static void lettersAre0To9() {
        for (int letter = 0; letter < 10; letter++) {
            int one = letter;
            Edges.answered("buy(0, " + one + ", 1)", 1, () -> Edges.founts(1, 0), x -> x.buy(0, one, 1));
            Edges.answered("block(0, " + one + ", 0)", 2, () -> Edges.founts(1, 2), x -> x.block(0, one, 0));
            Edges.answered("setOther(" + one + ", -1)", -1, PosterTypes::new, x -> x.setOther(one, -1));
        }
        for (int no : new int[] {-1, 10, FAR[0], FAR[1]}) {
            Edges.Shop one = () -> Edges.founts(1, 2);
            Edges.refused("buy(0, " + no + ", 1)", Edges.INDEX, one, x -> x.buy(0, no, 1));
            Edges.refused("block(0, " + no + ", 0)", Edges.INDEX, one, x -> x.block(0, no, 0));
            Edges.refused("setOther(" + no + ", 1)", Edges.INDEX, one, x -> x.setOther(no, 1));
        }
        Edges.answered("buyAll(0, 1)", 10, () -> Edges.founts(1, 0), x -> x.buyAll(0, 1));
    }

    @Sentence(promise = 0, words = "A word is a number, 0 to 99999999")
    static void wordsAre0To99999999() {
        Edges.Shop shop = () -> {
            PosterTypes x = Edges.founts(1, 9);
            x.poster(0, 1);
            return x;
        };
        for (int word : new int[] {0, 1, 99999998, 99999999}) {
            Edges.answered("line(0, " + word + ")", 0, shop, x -> x.line(0, word));
        }
        for (int word : new int[] {-1, 100000000, FAR[0], FAR[1]}) {
            Edges.refused("line(0, " + word + ")", Edges.ARGUMENT, shop, x -> x.line(0, word));
        }
    }

    @Sentence(promise = 0, words = "its letters are its digits, the highest one first")
    static void lettersOfWordsAreTheirDigits() {
        int most = 9;
        int least = 1;
        for (int letters = 1; letters <= 8; letters++) {
            for (int word : new int[] {least, most}) {
                Edges.answered("about(0, 0, 0) of the word " + word, letters, () -> wordSet(word),
                    x -> x.about(0, 0, 0));
                Edges.answered("told(0, 3) of the word " + word, letters, () -> wordSet(word), x -> x.told(0, 3));
                Edges.answered("count(6) of the word " + word, letters, () -> wordSet(word), x -> x.count(6));
            }
            least *= 10;
            most = most * 10 + 9;
        }
        for (int word : new int[] {12345678, 87654321, 90, 10203040, 99000009}) {
            Edges.answered("about(0, 0, 3)", word, () -> wordSet(word), x -> x.about(0, 0, 3));
        }
    }

    @Sentence(promise = 0, words = "Setting a line of a fount, by its letters, one by one, from the first one on")
    static void lettersTakeBlocksTheHighestDigitFirst() {
        Edges.Shop shop = () -> {
            PosterTypes x = Edges.founts(1, 0);
            x.buy(0, 2, 1);
            x.buy(0, 3, 1);
            x.setOther(1, 2);
            x.setOther(2, 3);
            Edges.poster(x, 12);
            Edges.poster(x, 21);
            return x;
        };
        Edges.answered("would(.., 1) of 12: 1 takes the 2, 2 the 3", 2, shop, x -> x.would(0, 1));
        Edges.answered("would(.., 1) of 21: 2 takes the 2, 1 lacks it", -1, shop, x -> x.would(1, 1));
    }

    @Sentence(promise = 0, words = "(the word 0 has the letter 0 alone)")
    static void wordZeroHasTheLetterZero() {
        Edges.answered("about(0, 0, 0)", 1, () -> wordSet(0), x -> x.about(0, 0, 0));
        Edges.answered("about(0, 0, 3)", 0, () -> wordSet(0), x -> x.about(0, 0, 3));
        Edges.answered("told(0, 3)", 1, () -> wordSet(0), x -> x.told(0, 3));
        Edges.answered("block(0, 0, 1)", 8, () -> wordSet(0), x -> x.block(0, 0, 1));
        Edges.answered("count(6)", 1, () -> wordSet(0), x -> x.count(6));
        Edges.answered("told(0, 7)", 30, () -> wordSet(0), x -> x.told(0, 7));
        PosterTypes y = new PosterTypes();
        y.fount(10);
        Edges.poster(y, 0);
        Edges.due("would(0, 1) without a block of 0", -1, y.would(0, 1));
        y.buy(0, 0, 1);
        Edges.due("would(0, 1) with one", 0, y.would(0, 1));
    }

    private static PosterTypes wordSet(int word) {
        PosterTypes x = Edges.founts(1, 9);
        Edges.poster(x, word);
        x.set(0);
        return x;
    }

    @Sentence(promise = 0, words = "Each letter has another one that can stand in its place, or none (at first).")
    static void lettersHaveNoOtherOneAtFirst() {
        for (int letter = 0; letter < 10; letter++) {
            int missing = letter;
            int other = (letter + 1) % 10;
            Edges.Shop shop = () -> allBut(missing);
            Edges.answered("would(0, 1) of the missing " + missing, -1, shop, x -> x.would(0, 1));
            Edges.answered("setOther(" + missing + ", -1)", -1, shop, x -> x.setOther(missing, -1));
            Edges.answered("set(0) with " + other + " for " + missing, 1, shop, x -> {
                x.setOther(missing, other);
                return x.set(0);
            });
            Edges.answered("would(0, 1) when there is none for " + missing + " again", -1, shop, x -> {
                x.setOther(missing, other);
                x.setOther(missing, -1);
                return x.would(0, 1);
            });
        }
    }

    private static PosterTypes allBut(int missing) {
        PosterTypes x = Edges.founts(1, 0);
        for (int letter = 0; letter < 10; letter++) {
            if (letter != missing) {
                x.buy(0, letter, 9);
            }
        }
        Edges.poster(x, missing);
        return x;
    }

    // ---- founts, towns, posters

    @Sentence(promise = 0, words = "Founts. At most 5, numbered from 0; each has a height, 1 to 20")
    static void fountsAreAtMost5() {
        PosterTypes x = new PosterTypes();
        for (int i = 0; i < 5; i++) {
            Edges.due("count(0)", i, x.count(0));
            Edges.due("fount(" + (i + 1) + ")", i, x.fount(i + 1));
        }
        Edges.due("count(0)", 5, x.count(0));
        Edges.refused("the sixth fount(6)", Edges.STATE, () -> Edges.founts(5, 1), s -> s.fount(6));
        Edges.answered("fount(1)", 0, PosterTypes::new, s -> s.fount(1));
        Edges.answered("fount(20)", 0, PosterTypes::new, s -> s.fount(20));
        Edges.refused("fount(0)", Edges.ARGUMENT, PosterTypes::new, s -> s.fount(0));
        Edges.refused("fount(21)", Edges.ARGUMENT, PosterTypes::new, s -> s.fount(21));
    }

    @Sentence(promise = 0, words = "and for each letter 0 to 9 blocks (none, at first), some of which are out, the"
        + " others free, and a wear (0, at first).")
    static void fountsHaveNoBlocksAndNoWearAtFirst() {
        for (int letter = 0; letter < 10; letter++) {
            for (int what = 0; what < 3; what++) {
                int one = letter;
                int asked = what;
                Edges.answered("block(1, " + one + ", " + asked + ") beside a full fount", 0, () -> {
                    PosterTypes x = Edges.founts(1, 9);
                    x.fount(3);
                    return x;
                }, x -> x.block(1, one, asked));
            }
        }
    }

    @Sentence(promise = 0, words = "and for each letter 0 to 9 blocks (none, at first), some of which are out, the"
        + " others free, and a wear (0, at first).")
    static void fountsHaveAtMost9BlocksOfALetter() {
        PosterTypes x = Edges.founts(1, 0);
        x.buy(0, 4, 8);
        Edges.due("buy(0, 4, 1) to 9", 9, x.buy(0, 4, 1));
        Edges.poster(x, 44444444, 4);
        x.set(0);
        Edges.due("blocks when all are out", 9, x.block(0, 4, 0));
        Edges.due("free ones when all are out", 0, x.block(0, 4, 1));
        Edges.due("buyAll(0, 9) when all 9 of a letter are out", 81, x.buyAll(0, 9));
        Edges.due("blocks then", 9, x.block(0, 4, 0));
        x.strike(0);
        Edges.due("free ones behind the strike", 9, x.block(0, 4, 1));
    }

    @Sentence(promise = 0, words = "Towns. There are 4, 0 to 3; each pays, 0 to 9 (3, at first), and is strict,"
        + " 0 to 30 (5, at first).")
    static void townsAre4() {
        for (int town = 0; town < 4; town++) {
            int one = town;
            Edges.answered("setTown(" + one + ", 9, 30)", 305, PosterTypes::new, x -> x.setTown(one, 9, 30));
            Edges.answered("setTown behind the most", 930, PosterTypes::new, x -> {
                x.setTown(one, 9, 30);
                return x.setTown(one, 0, 0);
            });
            Edges.answered("setTown behind the least", 0, PosterTypes::new, x -> {
                x.setTown(one, 0, 0);
                return x.setTown(one, 1, 1);
            });
            Edges.answered("poster(" + one + ", 1)", 0, PosterTypes::new, x -> x.poster(one, 1));
            Edges.answered("would(0, 0) by what it pays and asks at first", 10 * 3 * 2 - 5, () -> oneFlaw(one),
                x -> x.would(0, 0));
        }
        for (int no : new int[] {-1, 4, FAR[0], FAR[1]}) {
            Edges.refused("setTown(" + no + ", 1, 1)", Edges.INDEX, PosterTypes::new, x -> x.setTown(no, 1, 1));
            Edges.refused("poster(" + no + ", 1)", Edges.INDEX, PosterTypes::new, x -> x.poster(no, 1));
        }
    }

    private static PosterTypes oneFlaw(int town) {
        PosterTypes x = Edges.founts(1, 0);
        x.buy(0, 1, 1);
        x.buy(0, 2, 1);
        x.setOther(3, 2);
        Edges.posterFor(x, town, 1, 13);
        return x;
    }

    @Sentence(promise = 0, words = "Posters. At most 6, numbered from 0; each is for a town, wants a height, 1 to 20")
    static void postersAreAtMost6() {
        PosterTypes x = new PosterTypes();
        for (int i = 0; i < 6; i++) {
            Edges.due("count(1)", i, x.count(1));
            Edges.due("poster(" + i % 4 + ", " + (i + 15) + ")", i, x.poster(i % 4, i + 15));
            Edges.due("told(" + i + ", 0)", i % 4, x.told(i, 0));
            Edges.due("told(" + i + ", 1)", i + 15, x.told(i, 1));
        }
        Edges.due("count(1)", 6, x.count(1));
        Edges.refused("the seventh poster(0, 1)", Edges.STATE, Edges::full, s -> s.poster(0, 1));
        Edges.answered("poster(0, 1)", 0, PosterTypes::new, s -> s.poster(0, 1));
        Edges.refused("poster(0, 0)", Edges.ARGUMENT, PosterTypes::new, s -> s.poster(0, 0));
        Edges.refused("poster(0, 21)", Edges.ARGUMENT, PosterTypes::new, s -> s.poster(0, 21));
    }

    @Sentence(promise = 0, words = "and has at most 4 lines, each of which is a word.")
    static void postersHaveAtMost4Lines() {
        PosterTypes x = new PosterTypes();
        x.poster(0, 1);
        x.poster(0, 1);
        for (int i = 0; i < 4; i++) {
            Edges.due("told(0, 2)", i, x.told(0, 2));
            Edges.due("line(0, 7)", i, x.line(0, 7));
        }
        Edges.due("told(0, 2)", 4, x.told(0, 2));
        Edges.due("told(1, 2) of another poster", 0, x.told(1, 2));
        Edges.due("line(1, 7) of another poster", 0, x.line(1, 7));
        Edges.refused("the fifth line(0, 7)", Edges.STATE, EdgesOfTerms::fourLines, s -> s.line(0, 7));
    }

    private static PosterTypes fourLines() {
        PosterTypes x = Edges.founts(1, 9);
        Edges.poster(x, 1, 2, 3, 4);
        return x;
    }

    @Sentence(promise = 0, words = "A poster with lines is set, or not (at first).")
    static void postersAreNotSetAtFirst() {
        PosterTypes x = Edges.founts(1, 9);
        x.poster(0, 1);
        Edges.due("told(0, 4) without lines", 0, x.told(0, 4));
        x.line(0, 1);
        Edges.due("told(0, 4) with a line", 0, x.told(0, 4));
        Edges.due("count(2)", 0, x.count(2));
        x.set(0);
        Edges.due("told(0, 4) when it is set", 1, x.told(0, 4));
        Edges.due("count(2)", 1, x.count(2));
        x.strike(0);
        Edges.due("told(0, 4) when it is struck", 0, x.told(0, 4));
        Edges.due("count(2)", 0, x.count(2));
    }

    // ---- setting a line

    @Sentence(promise = 0, words = "a letter takes a free block of it, if one is left (behind those that this line took"
        + " ahead of it)")
    static void lineTakesTheLastFreeBlock() {
        for (int many = 1; many <= 8; many++) {
            int blocks = many;
            int word = Edges.word(7, many);
            Edges.answered(word + " with " + many + " blocks", 0, () -> sevens(blocks), x -> {
                Edges.poster(x, word);
                return x.would(0, 1);
            });
            Edges.answered(word + " with " + many + " blocks, one of which is out", -1, () -> sevens(blocks), x -> {
                Edges.poster(x, 7);
                x.set(0);
                Edges.poster(x, word);
                return x.would(1, 1);
            });
            Edges.answered(word + " behind a line that took one of " + many, -1, () -> sevens(blocks), x -> {
                Edges.poster(x, 7, word);
                return x.would(0, 1);
            });
        }
    }

    private static PosterTypes sevens(int many) {
        PosterTypes x = Edges.founts(1, 0);
        x.buy(0, 7, many);
        return x;
    }

    @Sentence(promise = 0, words = "otherwise it takes one of the letter that can stand in its place, if there is such"
        + " a letter, and one is left of it; that is a flaw")
    static void lineTakesTheLastBlockThatStandsIn() {
        Edges.answered("777 with 1 of 7 and 2 of 4", 2, () -> sevensAndFours(1, 2, 4), x -> x.set(0));
        Edges.answered("its blocks", 744, () -> sevensAndFours(1, 2, 4), x -> {
            x.set(0);
            return x.about(0, 0, 3);
        });
        Edges.answered("777 with 1 of 7 and 1 of 4", -1, () -> sevensAndFours(1, 1, 4), x -> x.would(0, 1));
        Edges.answered("777 with 3 of 7 and 2 of 4", 0, () -> sevensAndFours(3, 2, 4), x -> x.set(0));
        Edges.answered("777 with 1 of 7 and 2 of 4 that may not stand in", -1, () -> sevensAndFours(1, 2, -1),
            x -> x.would(0, 1));
        Edges.answered("777 with 1 of 7 and 2 of 4 when 5 may stand in", -1, () -> sevensAndFours(1, 2, 5),
            x -> x.would(0, 1));
        Edges.answered("777 with 1 of 7 and 2 of 4 that may stand in for 5, which may for 7", -1,
            () -> sevensAndFours(1, 2, 5), x -> {
                x.setOther(5, 4);
                return x.would(0, 1);
            });
        Edges.answered("777 with 1 of 7 and 2 of 4 when 7 may stand in for 4", -1, () -> sevensAndFours(1, 2, -1),
            x -> {
                x.setOther(4, 7);
                return x.would(0, 1);
            });
        PosterTypes y = sevensAndFours(1, 2, 4);
        y.set(Edges.poster(y, 4));
        Edges.due("777 with 1 of 7 and 1 free of 4", -1, y.would(0, 1));
    }

    private static PosterTypes sevensAndFours(int sevens, int fours, int other) {
        PosterTypes x = sevens(sevens);
        x.buy(0, 4, fours);
        x.setOther(7, other);
        Edges.poster(x, 777);
        return x;
    }

    @Sentence(promise = 0, words = "(a later letter may lack that block then)")
    static void lineLacksLaterWhatStoodIn() {
        PosterTypes x = Edges.founts(1, 0);
        x.buy(0, 2, 1);
        x.setOther(1, 2);
        int lacks = Edges.poster(x, 12);
        int fits = Edges.poster(x, 1);
        Edges.due("12 with a 2 that stands in for the 1", -1, x.would(lacks, 1));
        Edges.due("1 alone", 1, x.would(fits, 1));
        x.setOther(2, 3);
        Edges.due("12 when 3 may stand in for 2, without a 3", -1, x.would(lacks, 1));
        x.buy(0, 3, 1);
        Edges.due("12 when 3 may stand in for 2", 2, x.set(lacks));
        Edges.due("its blocks", 23, x.about(lacks, 0, 3));
    }

    @Sentence(promise = 0, words = "If it can take none, the line cannot be set of this fount.")
    static void lineIsNotSetOfAFountThatLacksALetter() {
        PosterTypes x = new PosterTypes();
        x.fount(20);
        x.fount(5);
        x.buy(0, 1, 1);
        x.buy(1, 1, 1);
        x.buy(1, 2, 1);
        Edges.poster(x, 12);
        Edges.due("set(0)", 0, x.set(0));
        Edges.due("the fount that has all letters", 1, x.about(0, 0, 1));
        PosterTypes y = new PosterTypes();
        y.fount(20);
        y.fount(5);
        y.buy(0, 1, 1);
        y.buy(1, 2, 1);
        Edges.poster(y, 12);
        Edges.due("would(0, 1) when no one fount has all letters", -1, y.would(0, 1));
    }

    @Sentence(promise = 0, words = "A line is set of the fount, of those that are as high as the poster wants,"
        + " or higher")
    static void lineWantsAFountAsHighAsThePoster() {
        int[][] heights = {{10, 10, 0}, {10, 11, 0}, {10, 9, -1}, {20, 20, 0}, {20, 19, -1}, {1, 1, 0}, {1, 20, 0},
            {2, 1, -1}};
        for (int[] pair : heights) {
            Edges.answered("would(0, 1) of a poster of " + pair[0] + " with a fount of " + pair[1], pair[2], () -> {
                PosterTypes x = new PosterTypes();
                x.fount(pair[1]);
                x.buyAll(0, 1);
                Edges.posterFor(x, 0, pair[0], 1);
                return x;
            }, x -> x.would(0, 1));
        }
        PosterTypes x = new PosterTypes();
        x.fount(9);
        x.fount(10);
        x.buyAll(0, 9);
        x.buy(1, 2, 1);
        x.setOther(1, 2);
        Edges.posterFor(x, 0, 10, 1);
        Edges.due("set(0) with a flaw, rather than lower", 1, x.set(0));
        Edges.due("its fount", 1, x.about(0, 0, 1));
    }

    @Sentence(promise = 0, words = "with which it has the fewest flaws")
    static void lineTakesTheFountOfFewestFlaws() {
        for (int best = 0; best < 5; best++) {
            PosterTypes x = new PosterTypes();
            x.setOther(1, 2);
            for (int fount = 0; fount < 5; fount++) {
                x.fount(20 - fount);
                x.buy(fount, 2, 8);
                x.buy(fount, 1, fount == best ? 7 : 6);
            }
            Edges.poster(x, 11111111);
            Edges.due("set(0), 1 flaw in fount " + best + ", 2 in the others", 1, x.set(0));
            Edges.due("its fount", best, x.about(0, 0, 1));
        }
        PosterTypes y = new PosterTypes();
        y.fount(20);
        y.fount(1);
        y.buy(0, 2, 1);
        y.buy(1, 1, 1);
        y.setOther(1, 2);
        Edges.poster(y, 1);
        Edges.due("set(0) without a flaw, rather than higher", 0, y.set(0));
        Edges.due("its fount", 1, y.about(0, 0, 1));
    }

    @Sentence(promise = 0, words = "of several the highest one")
    static void lineTakesTheHighestOfAsFewFlaws() {
        for (int best = 0; best < 5; best++) {
            for (int flaws = 0; flaws < 2; flaws++) {
                PosterTypes x = new PosterTypes();
                x.setOther(1, 2);
                for (int fount = 0; fount < 5; fount++) {
                    x.fount(fount == best ? 8 : 7 - fount);
                    x.buy(fount, flaws == 0 ? 1 : 2, 1);
                }
                Edges.poster(x, 1);
                Edges.due("set(0) when fount " + best + " is the highest", flaws, x.set(0));
                Edges.due("its fount", best, x.about(0, 0, 1));
            }
        }
    }

    @Sentence(promise = 0, words = "then the one with the smallest number.")
    static void lineTakesTheFirstOfAsHighFounts() {
        PosterTypes x = Edges.founts(5, 1);
        for (int poster = 0; poster < 5; poster++) {
            Edges.poster(x, 1);
            Edges.due("set(" + poster + ")", 0, x.set(poster));
            Edges.due("the first fount that has a free block", poster, x.about(poster, 0, 1));
        }
        x.strike(3);
        x.strike(1);
        x.set(3);
        Edges.due("the first one that is free again", 1, x.about(3, 0, 1));
        PosterTypes y = new PosterTypes();
        int[] heights = {4, 6, 5, 6, 6};
        for (int fount = 0; fount < 5; fount++) {
            y.fount(heights[fount]);
            y.buyAll(fount, 1);
        }
        Edges.poster(y, 1, 1, 1, 1);
        y.set(0);
        int[] want = {1, 3, 4, 2};
        for (int line = 0; line < 4; line++) {
            Edges.due("the fount of line " + line, want[line], y.about(0, line, 1));
        }
    }

    // ---- setting a poster

    @Sentence(promise = 0, words = "Setting a poster: its lines are set, from the first one on, each as well as it can"
        + " be by itself")
    static void posterIsSetLineByLine() {
        Edges.answered("would(.., 1) of 1, 12: 1 takes what 12 needs", -1, EdgesOfTerms::highOne,
            x -> x.would(Edges.poster(x, 1, 12), 1));
        Edges.answered("would(.., 1) of 12, 1", 0, EdgesOfTerms::highOne, x -> x.would(Edges.poster(x, 12, 1), 1));
        PosterTypes x = Edges.founts(1, 0);
        x.buy(0, 1, 1);
        x.buy(0, 2, 1);
        x.setOther(1, 2);
        Edges.poster(x, 1, 1);
        x.set(0);
        Edges.due("flaws of the first line", 0, x.about(0, 0, 2));
        Edges.due("flaws of the second line", 1, x.about(0, 1, 2));
    }

    private static PosterTypes highOne() {
        PosterTypes x = new PosterTypes();
        x.fount(20);
        x.fount(5);
        x.buy(0, 1, 1);
        x.buy(0, 2, 1);
        x.buy(1, 1, 1);
        return x;
    }

    @Sentence(promise = 0, words = "the blocks of each are out then.")
    static void posterHasTheBlocksOfEachLineOut() {
        PosterTypes x = Edges.founts(2, 3);
        x.setOther(1, 2);
        Edges.poster(x, 11, 1122, 3, 0);
        Edges.due("set(0): no fount has two of 1 for line 1 but the second", 0, x.set(0));
        int[][] free = {{2, 1, 3, 2, 3}, {3, 1, 1, 3, 3}};
        for (int fount = 0; fount < 2; fount++) {
            for (int letter = 0; letter < 5; letter++) {
                Edges.due("block(" + fount + ", " + letter + ", 1)", free[fount][letter], x.block(fount, letter, 1));
                Edges.due("block(" + fount + ", " + letter + ", 0)", 3, x.block(fount, letter, 0));
            }
        }
        Edges.due("count(6)", 8, x.count(6));
    }

    @Sentence(promise = 0, words = "the blocks of each are out then.")
    static void posterLacksInALineWhatOneAheadTook() {
        for (int i = 0; i < 10; i++) {
            int letter = i;
            int other = (i + 1) % 10;
            for (int fount = 0; fount < 5; fount++) {
                PosterTypes x = Edges.founts(5, 0);
                x.buy(fount, letter, 1);
                Edges.poster(x, letter, letter);
                String two = letter + ", " + letter + " of fount " + fount + " with ";
                Edges.due(two + "1 block", -1, x.would(0, 1));
                x.setOther(letter, other);
                x.buy(fount, other, 1);
                Edges.due(two + "1 block and one that stands in", 1, x.would(0, 1));
                x.line(0, other);
                Edges.due(two + "1 block, one that stands in, and a line that lacks it", -1, x.would(0, 1));
                x.buy(fount, letter, 1);
                Edges.due(two + "2 blocks, and a line of another letter", 0, x.set(0));
            }
        }
    }

    @Sentence(promise = 0, words = "If some line cannot be set, the poster cannot, and no block is out by it.")
    static void posterOfWhichALineCannotBeSetIsNotSet() {
        for (int lacking = 0; lacking < 4; lacking++) {
            int line = lacking;
            Edges.Shop shop = () -> {
                PosterTypes x = Edges.founts(2, 2);
                x.poster(0, 1);
                for (int i = 0; i < 4; i++) {
                    x.line(0, i == line ? 555 : i);
                }
                return x;
            };
            String call = "set(0) of which line " + line + " cannot be set";
            Edges.refused(call, Edges.STATE, shop, x -> x.set(0));
            Edges.answered("count(6) behind " + call, 0, shop, x -> {
                refusedSet(x);
                return x.count(6);
            });
            Edges.answered("told(0, 4) behind " + call, 0, shop, x -> {
                refusedSet(x);
                return x.told(0, 4);
            });
            Edges.answered(call + " when a block more is there", 0, shop, x -> {
                refusedSet(x);
                x.buy(0, 5, 1);
                return x.set(0);
            });
        }
    }

    private static void refusedSet(PosterTypes x) {
        try {
            Edges.fault("set(0) answered " + x.set(0));
        } catch (IllegalStateException e) {
            return;
        }
    }

    // ---- proof, printing, striking

    @Sentence(promise = 0, words = "Proof of a poster: for each line that is set the height of its fount times its"
        + " letters, all added")
    static void proofAddsEachLineByItsOwnFount() {
        PosterTypes x = new PosterTypes();
        int[] heights = {1, 20, 19, 2};
        for (int fount = 0; fount < 4; fount++) {
            x.fount(heights[fount]);
            x.buy(fount, fount, 9);
        }
        x.setTown(0, 1, 30);
        int[][] proofs = {{0, 1}, {11111111, 1 + 20 * 8}, {2, 1 + 20 * 8 + 19}, {3333, 1 + 20 * 8 + 19 + 2 * 4}};
        x.poster(0, 1);
        for (int[] pair : proofs) {
            x.line(0, pair[0]);
            Edges.due("would(0, 0) with the line " + pair[0], pair[1], x.would(0, 0));
            x.set(0);
            Edges.due("told(0, 7) with the line " + pair[0], pair[1], x.told(0, 7));
            x.strike(0);
        }
    }

    @Sentence(promise = 0, words = "less all its flaws times how strict the town is now; at least 0.")
    static void proofIsAtLeast0() {
        int[][] proofs = {{0, 20}, {1, 18}, {9, 2}, {10, 0}, {11, 0}, {30, 0}};
        for (int[] pair : proofs) {
            Edges.answered("told(0, 7), strict " + pair[0], pair[1], EdgesOfTerms::twoFlaws, x -> {
                x.set(0);
                x.setTown(2, 1, pair[0]);
                return x.told(0, 7);
            });
            Edges.answered("would(0, 0), strict " + pair[0], pair[1], EdgesOfTerms::twoFlaws, x -> {
                x.setTown(2, 1, pair[0]);
                return x.would(0, 0);
            });
            Edges.answered("print(0, 500), strict " + pair[0], pair[1] * 5, EdgesOfTerms::twoFlaws, x -> {
                x.set(0);
                x.setTown(2, 1, pair[0]);
                return x.print(0, 500);
            });
            Edges.answered("count(3) behind it", pair[1] * 5, EdgesOfTerms::twoFlaws, x -> {
                x.set(0);
                x.setTown(2, 1, pair[0]);
                x.print(0, 500);
                return x.count(3);
            });
        }
    }

    /** Two lines of two letters, the second with two flaws, of a fount of 5: 20 times what town 2 pays. */
    private static PosterTypes twoFlaws() {
        PosterTypes x = new PosterTypes();
        x.fount(5);
        x.buyAll(0, 2);
        x.setOther(7, 8);
        Edges.posterFor(x, 2, 5, 77, 77);
        return x;
    }

    @Sentence(promise = 0, words = "times what its town pays now")
    static void proofIsByWhatTheTownPaysNow() {
        for (int pay : new int[] {0, 1, 8, 9}) {
            Edges.answered("told(0, 7) when its town pays " + pay, Math.max(0, 20 * pay - 2 * 5),
                EdgesOfTerms::twoFlaws, x -> {
                    x.set(0);
                    x.setTown(2, pay, 5);
                    return x.told(0, 7);
                });
        }
        Edges.answered("told(0, 7) when another town pays more", 20 * 3 - 2 * 5, EdgesOfTerms::twoFlaws, x -> {
            x.set(0);
            x.setTown(0, 9, 0);
            x.setTown(1, 9, 0);
            x.setTown(3, 9, 0);
            return x.told(0, 7);
        });
        Edges.answered("told(0, 7) of the greatest poster", 20 * 32 * 9, EdgesOfTerms::greatest, x -> x.told(0, 7));
    }

    /** The greatest poster that there can be, set, for a town that pays as much as it may. */
    private static PosterTypes greatest() {
        PosterTypes x = new PosterTypes();
        for (int fount = 0; fount < 4; fount++) {
            x.fount(20);
            x.buyAll(fount, 9);
        }
        x.setTown(3, 9, 30);
        Edges.posterFor(x, 3, 20, 99999999, 99999999, 99999999, 99999999);
        x.set(0);
        return x;
    }

    @Sentence(promise = 0, words = "(So it is 0, if it is not set.)")
    static void proofIs0IfNotSet() {
        PosterTypes x = Edges.founts(1, 9);
        x.poster(0, 1);
        Edges.due("told(0, 7) without lines", 0, x.told(0, 7));
        x.line(0, 5);
        Edges.due("told(0, 7) ahead of the setting", 0, x.told(0, 7));
        Edges.due("would(0, 0) then", 30, x.would(0, 0));
        Edges.due("told(0, 7) behind would", 0, x.told(0, 7));
        x.set(0);
        Edges.due("told(0, 7)", 30, x.told(0, 7));
        x.strike(0);
        Edges.due("told(0, 7) behind a strike", 0, x.told(0, 7));
    }

    @Sentence(promise = 0, words = "Printing copies: for each block that is out for the poster the wear of its letter"
        + " in its fount is as many more as there are copies")
    static void printingWearsWhatIsOutForThePoster() {
        PosterTypes x = Edges.founts(2, 3);
        x.setOther(1, 2);
        x.set(Edges.poster(x, 111, 13));
        x.set(Edges.poster(x, 4));
        x.set(Edges.poster(x, 12));
        x.print(0, 500);
        int[][] wear = {{0, 1500, 0, 0, 0}, {0, 500, 0, 500, 0}};
        for (int letter = 0; letter < 5; letter++) {
            Edges.due("block(0, " + letter + ", 2)", wear[0][letter], x.block(0, letter, 2));
            Edges.due("block(1, " + letter + ", 2)", wear[1][letter], x.block(1, letter, 2));
        }
        x.print(0, 1);
        Edges.due("block(0, 1, 2) behind one copy more", 1503, x.block(0, 1, 2));
        PosterTypes y = sevensAndFours(1, 2, 4);
        y.set(0);
        y.print(0, 10);
        Edges.due("wear of the letter that stands in", 20, y.block(0, 4, 2));
        Edges.due("wear of the letter that is missing", 10, y.block(0, 7, 2));
        PosterTypes z = Edges.founts(1, 9);
        z.set(Edges.poster(z, 22222222, 2));
        z.print(0, 500);
        Edges.due("wear of 9 blocks over two lines", 4500, z.block(0, 2, 2));
        Edges.due("nothing breaks by it", 9, z.block(0, 2, 0));
    }

    @Sentence(promise = 0, words = "the shop gets proof * copies / 100 coins.")
    static void printingPaysByTheProof() {
        Edges.answered("print(0, 500) of the greatest poster", 28800, EdgesOfTerms::greatest, x -> x.print(0, 500));
        Edges.answered("print(0, 1) of the greatest poster", 57, EdgesOfTerms::greatest, x -> x.print(0, 1));
        Edges.answered("count(3) behind two prints", 28857, EdgesOfTerms::greatest, x -> {
            x.print(0, 500);
            x.print(0, 1);
            return x.count(3);
        });
        Edges.answered("count(3) of a new shop", 0, PosterTypes::new, x -> x.count(3));
    }

    @Sentence(promise = 0, words = "Striking a poster: its blocks are free again, and it is not set.")
    static void strikingFreesTheBlocksOfThePosterAlone() {
        PosterTypes x = sevensAndFours(1, 2, 4);
        x.buy(0, 1, 2);
        x.set(0);
        x.set(Edges.poster(x, 1));
        Edges.due("count(6)", 4, x.count(6));
        x.setOther(7, 1);
        x.strike(0);
        Edges.due("count(6) behind the strike", 1, x.count(6));
        Edges.due("block(0, 7, 1)", 1, x.block(0, 7, 1));
        Edges.due("block(0, 4, 1) though another letter stands in now", 2, x.block(0, 4, 1));
        Edges.due("block(0, 1, 1) of another poster", 1, x.block(0, 1, 1));
        Edges.due("told(0, 4)", 0, x.told(0, 4));
        Edges.due("told(1, 4) of another poster", 1, x.told(1, 4));
        x.setOther(7, 4);
        Edges.due("it can be set again", 2, x.set(0));
    }

    @Sentence(promise = 0, words = "as long as a letter has a wear of 400 or more, and a free block, one of these"
        + " breaks, and its wear is 400 less.")
    static void strikingBreaksAtAWearOf400() {
        int[][] runs = {{398, 0, 398}, {399, 0, 399}, {400, 1, 0}, {401, 1, 1}, {799, 1, 399}, {800, 2, 0},
            {801, 2, 1}, {1199, 2, 399}, {1200, 3, 0}, {3999, 9, 399}, {4000, 9, 400}};
        for (int[] run : runs) {
            Edges.Shop shop = () -> {
                PosterTypes x = sevens(9);
                x.set(Edges.poster(x, 7));
                for (int rest = run[0]; rest > 0; rest -= 500) {
                    x.print(0, Math.min(rest, 500));
                }
                return x;
            };
            String call = "strike(0) with a wear of " + run[0] + " and 9 blocks";
            Edges.answered(call, run[1], shop, x -> x.strike(0));
            for (int what = 0; what < 3; what++) {
                int asked = what;
                Edges.answered("block(0, 7, " + asked + ") behind " + call,
                    what == 2 ? run[2] : 9 - run[1], shop, x -> {
                    x.strike(0);
                    return x.block(0, 7, asked);
                });
            }
            Edges.answered("count(4) behind " + call, run[1], shop, x -> {
                x.strike(0);
                return x.count(4);
            });
            Edges.answered("count(5) behind " + call, 9 - run[1], shop, x -> {
                x.strike(0);
                return x.count(5);
            });
        }
    }

    @Sentence(promise = 0, words = "and a free block")
    static void strikingBreaksFreeBlocksAlone() {
        PosterTypes x = sevens(1);
        x.buy(0, 1, 1);
        x.set(Edges.poster(x, 7));
        x.print(0, 500);
        x.print(0, 500);
        x.print(0, 200);
        Edges.poster(x, 1);
        x.set(1);
        Edges.due("strike(1) when the worn block is out", 0, x.strike(1));
        Edges.due("wear then", 1200, x.block(0, 7, 2));
        Edges.due("strike(0): one breaks, another there is not", 1, x.strike(0));
        Edges.due("blocks then", 0, x.block(0, 7, 0));
        Edges.due("free ones then", 0, x.block(0, 7, 1));
        Edges.due("wear then", 800, x.block(0, 7, 2));
        Edges.due("buy(0, 7, 1)", 1, x.buy(0, 7, 1));
        Edges.due("a bought one does not break by itself", 1, x.block(0, 7, 1));
        x.set(1);
        Edges.due("strike(1) breaks the bought one", 1, x.strike(1));
        Edges.due("wear then", 400, x.block(0, 7, 2));
        x.buy(0, 7, 2);
        x.set(1);
        Edges.due("strike(1) breaks one of two", 1, x.strike(1));
        Edges.due("blocks then", 1, x.block(0, 7, 0));
        Edges.due("wear then", 0, x.block(0, 7, 2));
    }

    @Sentence(promise = 0, words = "Then in all founts, for all letters, also those of other posters")
    static void strikingBreaksInAllFounts() {
        PosterTypes x = Edges.founts(5, 1);
        for (int poster = 0; poster < 5; poster++) {
            Edges.poster(x, 12345678, 90);
            x.set(poster);
            x.print(poster, 400);
        }
        for (int fount = 0; fount < 5; fount++) {
            Edges.due("buyAll(" + fount + ", 1)", 10, x.buyAll(fount, 1));
        }
        Edges.poster(x, 6);
        x.set(5);
        Edges.due("strike(5): one of each letter in each fount", 50, x.strike(5));
        for (int i = 0; i < 50; i++) {
            String of = "block(" + i / 10 + ", " + i % 10 + ", ";
            Edges.due(of + "0)", 1, x.block(i / 10, i % 10, 0));
            Edges.due(of + "1)", 0, x.block(i / 10, i % 10, 1));
            Edges.due(of + "2)", 0, x.block(i / 10, i % 10, 2));
        }
        Edges.due("count(4)", 50, x.count(4));
        Edges.due("count(6)", 50, x.count(6));
    }

    // ---- exceptions

    private interface Refusal {
        void by(String call, Class<? extends RuntimeException> want, Edges.Call made);
    }

    @Sentence(promise = 0, words = "A method that throws an exception changes nothing.")
    static void refusedCallsChangeNothing() {
        Edges.Shop[] shops = {Edges::busy, Edges::full};
        for (Edges.Shop shop : shops) {
            Refusal refused = (call, want, made) -> Edges.refused(call, want, shop, made);
            refused.by("fount(0)", Edges.ARGUMENT, x -> x.fount(0));
            refused.by("buy(9, 0, 1)", Edges.INDEX, x -> x.buy(9, 0, 1));
            refused.by("buy(0, 0, 0)", Edges.ARGUMENT, x -> x.buy(0, 0, 0));
            refused.by("buy(1, 7, 1)", Edges.STATE, x -> x.buy(1, 7, 1));
            refused.by("buyAll(9, 1)", Edges.INDEX, x -> x.buyAll(9, 1));
            refused.by("buyAll(0, 10)", Edges.ARGUMENT, x -> x.buyAll(0, 10));
            refused.by("setOther(1, 10)", Edges.INDEX, x -> x.setOther(1, 10));
            refused.by("setOther(1, 1)", Edges.ARGUMENT, x -> x.setOther(1, 1));
            refused.by("setTown(4, 1, 1)", Edges.INDEX, x -> x.setTown(4, 1, 1));
            refused.by("setTown(1, 1, 31)", Edges.ARGUMENT, x -> x.setTown(1, 1, 31));
            refused.by("setTown(1, 10, 1)", Edges.ARGUMENT, x -> x.setTown(1, 10, 1));
            refused.by("poster(4, 1)", Edges.INDEX, x -> x.poster(4, 1));
            refused.by("poster(0, 21)", Edges.ARGUMENT, x -> x.poster(0, 21));
            refused.by("line(6, 1)", Edges.INDEX, x -> x.line(6, 1));
            refused.by("line(2, -1)", Edges.ARGUMENT, x -> x.line(2, -1));
            refused.by("line(0, 1)", Edges.STATE, x -> x.line(0, 1));
            refused.by("line(3, 1)", Edges.STATE, x -> x.line(3, 1));
            refused.by("set(6)", Edges.INDEX, x -> x.set(6));
            refused.by("set(0)", Edges.STATE, x -> x.set(0));
            refused.by("set(3)", Edges.STATE, x -> x.set(3));
            refused.by("print(6, 1)", Edges.INDEX, x -> x.print(6, 1));
            refused.by("print(0, 501)", Edges.ARGUMENT, x -> x.print(0, 501));
            refused.by("strike(6)", Edges.INDEX, x -> x.strike(6));
            refused.by("block(0, 0, 3)", Edges.INDEX, x -> x.block(0, 0, 3));
            refused.by("told(0, 8)", Edges.INDEX, x -> x.told(0, 8));
            refused.by("about(0, 0, 4)", Edges.INDEX, x -> x.about(0, 0, 4));
            refused.by("count(7)", Edges.INDEX, x -> x.count(7));
            refused.by("would(1, 2)", Edges.INDEX, x -> x.would(1, 2));
            refused.by("advise(6)", Edges.INDEX, x -> x.advise(6));
            refused.by("lasts(6)", Edges.INDEX, x -> x.lasts(6));
        }
        Edges.refused("fount(1)", Edges.STATE, Edges::full, x -> x.fount(1));
        Edges.refused("poster(0, 1)", Edges.STATE, Edges::full, x -> x.poster(0, 1));
        Edges.refused("set(2)", Edges.STATE, Edges::busy, x -> x.set(2));
        Edges.refused("set(5)", Edges.STATE, Edges::full, x -> x.set(5));
        for (int notSet = 1; notSet <= 4; notSet++) {
            int poster = notSet;
            Edges.refused("print(" + poster + ", 1)", Edges.STATE, Edges::busy, x -> x.print(poster, 1));
            Edges.refused("strike(" + poster + ")", Edges.STATE, Edges::busy, x -> x.strike(poster));
            Edges.refused("lasts(" + poster + ")", Edges.STATE, Edges::busy, x -> x.lasts(poster));
        }
    }

    @Sentence(promise = 0, words = "If several exceptions apply, the one that is named first is thrown.")
    static void firstNamedExceptionIsThrown() {
        Refusal full = (call, want, made) -> Edges.refused(call, want, Edges::full, made);
        full.by("fount(21) beside 5", Edges.ARGUMENT, x -> x.fount(21));
        full.by("buy(5, 0, 10)", Edges.INDEX, x -> x.buy(5, 0, 10));
        full.by("buy(0, 10, 0)", Edges.INDEX, x -> x.buy(0, 10, 0));
        full.by("buy(0, 0, 10) beside 9", Edges.ARGUMENT, x -> x.buy(0, 0, 10));
        full.by("buyAll(5, 0)", Edges.INDEX, x -> x.buyAll(5, 0));
        full.by("setOther(10, 10)", Edges.INDEX, x -> x.setOther(10, 10));
        full.by("setOther(-1, -1)", Edges.INDEX, x -> x.setOther(-1, -1));
        full.by("setTown(4, 10, 31)", Edges.INDEX, x -> x.setTown(4, 10, 31));
        full.by("poster(4, 21) beside 6", Edges.INDEX, x -> x.poster(4, 21));
        full.by("poster(4, 1) beside 6", Edges.INDEX, x -> x.poster(4, 1));
        full.by("poster(0, 21) beside 6", Edges.ARGUMENT, x -> x.poster(0, 21));
        full.by("line(6, -1)", Edges.INDEX, x -> x.line(6, -1));
        full.by("line(0, -1) of a set poster with 4", Edges.ARGUMENT, x -> x.line(0, -1));
        full.by("line(5, 100000000) of a poster with 4", Edges.ARGUMENT, x -> x.line(5, 100000000));
        full.by("set(6)", Edges.INDEX, x -> x.set(6));
        full.by("print(6, 501)", Edges.INDEX, x -> x.print(6, 501));
        full.by("print(5, 0) of a poster that is not set", Edges.ARGUMENT, x -> x.print(5, 0));
        full.by("print(5, 501) of a poster that is not set", Edges.ARGUMENT, x -> x.print(5, 501));
    }
}
