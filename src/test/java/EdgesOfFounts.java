/** The edges of promises 1 to 6: a new object, founts, their blocks, other letters, towns. */
final class EdgesOfFounts {
    private static final int[] NOT_1_TO_9 = {0, 10, -1, 11, Integer.MIN_VALUE, Integer.MAX_VALUE};
    private static final int[] NOT_1_TO_20 = {0, 21, -1, 22, Integer.MIN_VALUE, Integer.MAX_VALUE};
    private static final int[] NOT_0_TO_9 = {-1, 10, -2, 11, Integer.MIN_VALUE, Integer.MAX_VALUE};

    private EdgesOfFounts() {
    }

    // ---- promise 1

    @Sentence(promise = 1, words = "Creates a shop without founts and posters, and without coins.")
    static void newShopHasNothing() {
        for (int i = 0; i < 7; i++) {
            int what = i;
            Edges.answered("count(" + what + ")", 0, PosterTypes::new, x -> x.count(what));
        }
        Edges.answered("next()", -1, PosterTypes::new, PosterTypes::next);
        Edges.dueDouble("mean()", 0.0, new PosterTypes().mean());
        Refused refused = (call, made) -> Edges.refused(call + " of a new shop", Edges.INDEX, PosterTypes::new, made);
        refused.call("buy(0, 0, 1)", x -> x.buy(0, 0, 1));
        refused.call("buyAll(0, 1)", x -> x.buyAll(0, 1));
        refused.call("line(0, 1)", x -> x.line(0, 1));
        refused.call("set(0)", x -> x.set(0));
        refused.call("print(0, 1)", x -> x.print(0, 1));
        refused.call("strike(0)", x -> x.strike(0));
        refused.call("block(0, 0, 0)", x -> x.block(0, 0, 0));
        refused.call("told(0, 0)", x -> x.told(0, 0));
        refused.call("about(0, 0, 0)", x -> x.about(0, 0, 0));
        refused.call("would(0, 0)", x -> x.would(0, 0));
        refused.call("advise(0)", x -> x.advise(0));
        refused.call("lasts(0)", x -> x.lasts(0));
    }

    private interface Refused {
        void call(String call, Edges.Call made);
    }

    @Sentence(promise = 1, words = "Creates a shop without founts and posters, and without coins.")
    static void newShopIsItsOwn() {
        PosterTypes first = Edges.busy();
        PosterTypes second = new PosterTypes();
        Edges.due("digest() of a shop made behind a busy one", new PosterTypes().digest(), second.digest());
        Edges.due("setTown(1, 1, 1) of it", 305, second.setTown(1, 1, 1));
        Edges.due("setOther(1, 3) of it", -1, second.setOther(1, 3));
        Edges.due("setOther(1, 3) of the busy one", 2, first.setOther(1, 3));
    }

    // ---- promise 2

    @Sentence(promise = 2, words = "Returns its number.")
    static void fountNumbersAre0To4() {
        for (int i = 0; i < 5; i++) {
            int there = i;
            Edges.answered("fount(7) beside " + there, there, () -> Edges.founts(there, 0), x -> x.fount(7));
        }
    }

    @Sentence(promise = 2, words = {
        "height: the height of a new fount",
        "Throws IllegalArgumentException if height is not 1 to 20"})
    static void fountHeightIs1To20() {
        for (int height : new int[] {1, 2, 19, 20}) {
            Edges.answered("fount(" + height + ")", 0, PosterTypes::new, x -> x.fount(height));
            Edges.answered("proof of a letter of it", 3 * height, PosterTypes::new, x -> {
                x.fount(height);
                x.buyAll(0, 1);
                return x.would(Edges.poster(x, 1), 0);
            });
        }
        for (int height : NOT_1_TO_20) {
            Edges.refused("fount(" + height + ")", Edges.ARGUMENT, PosterTypes::new, x -> x.fount(height));
            Edges.refused("fount(" + height + ") beside 4", Edges.ARGUMENT, () -> Edges.founts(4, 1),
                x -> x.fount(height));
            Edges.refused("fount(" + height + ") beside 5", Edges.ARGUMENT, () -> Edges.founts(5, 1),
                x -> x.fount(height));
        }
    }

    @Sentence(promise = 2, words = "Throws IllegalStateException if there are 5")
    static void fountsAre5() {
        Edges.answered("the fifth fount(1)", 4, () -> Edges.founts(4, 1), x -> x.fount(1));
        for (int height : new int[] {1, 20}) {
            Edges.refused("the sixth fount(" + height + ")", Edges.STATE, () -> Edges.founts(5, 1),
                x -> x.fount(height));
        }
        Edges.refused("fount(1) of a full shop", Edges.STATE, Edges::full, x -> x.fount(1));
    }

    // ---- promise 3

    @Sentence(promise = 3, words = "Returns how many it has then, out ones as well.")
    static void buyTellsOutOnesAsWell() {
        Edges.answered("buy(0, 3, 1) of a letter without blocks", 1, () -> Edges.founts(1, 0), x -> x.buy(0, 3, 1));
        Edges.answered("buy(0, 3, 1) beside 2 free ones", 3, () -> Edges.founts(1, 2), x -> x.buy(0, 3, 1));
        Edges.answered("buy(0, 3, 1) beside 2 that are out", 3, () -> allOut(2), x -> x.buy(0, 3, 1));
        Edges.answered("buy(0, 3, 1) beside 8 that are out", 9, () -> allOut(8), x -> x.buy(0, 3, 1));
        Edges.answered("buy(0, 3, 4) of a letter whose blocks broke", 4, EdgesOfFounts::broken, x -> x.buy(0, 3, 4));
        PosterTypes x = allOut(2);
        x.buy(0, 3, 1);
        Edges.due("free ones then", 1, x.block(0, 3, 1));
        Edges.due("those of another letter", 2, x.block(0, 4, 0));
    }

    /** One fount of which a poster has all blocks of the letter 3 out. */
    private static PosterTypes allOut(int many) {
        PosterTypes x = Edges.founts(1, many);
        x.set(Edges.posterOf(x, 3, many));
        return x;
    }

    /** One fount of which the 9 blocks of the letter 3 broke, all. */
    private static PosterTypes broken() {
        PosterTypes x = allOut(9);
        x.print(0, 400);
        x.strike(0);
        return x;
    }

    @Sentence(promise = 3, words = {
        "fount: a fount - letter: a letter",
        "Throws IndexOutOfBoundsException if there is no such fount or letter"})
    static void buyWantsAFountAndALetter() {
        Edges.Shop five = () -> Edges.founts(5, 1);
        for (int i = 0; i < 5; i++) {
            int fount = i;
            Edges.answered("buy(" + fount + ", 9, 1)", 2, five, x -> x.buy(fount, 9, 1));
        }
        for (int i = 0; i < 10; i++) {
            int letter = i;
            Edges.answered("buy(4, " + letter + ", 1)", 2, five, x -> x.buy(4, letter, 1));
        }
        for (int many : new int[] {1, 0, 10, 9}) {
            for (int fount : new int[] {-1, 5, Integer.MIN_VALUE, Integer.MAX_VALUE}) {
                Edges.refused("buy(" + fount + ", 0, " + many + ")", Edges.INDEX, five, x -> x.buy(fount, 0, many));
            }
            for (int letter : NOT_0_TO_9) {
                Edges.refused("buy(0, " + letter + ", " + many + ")", Edges.INDEX, five, x -> x.buy(0, letter, many));
            }
        }
        Edges.refused("buy(0, 0, 1) without founts", Edges.INDEX, PosterTypes::new, x -> x.buy(0, 0, 1));
        Edges.refused("buy(1, 0, 1) with one", Edges.INDEX, () -> Edges.founts(1, 1), x -> x.buy(1, 0, 1));
    }

    @Sentence(promise = 3, words = {
        "many: how many blocks of it come",
        "Throws IllegalArgumentException if many is not 1 to 9"})
    static void buyIsOf1To9() {
        for (int many = 1; many <= 9; many++) {
            int come = many;
            Edges.answered("buy(0, 0, " + come + ")", come, () -> Edges.founts(1, 0), x -> x.buy(0, 0, come));
        }
        for (int many : NOT_1_TO_9) {
            Edges.refused("buy(0, 0, " + many + ")", Edges.ARGUMENT, () -> Edges.founts(1, 0),
                x -> x.buy(0, 0, many));
            Edges.refused("buy(0, 0, " + many + ") beside 9", Edges.ARGUMENT, () -> Edges.founts(1, 9),
                x -> x.buy(0, 0, many));
        }
    }

    @Sentence(promise = 3, words = "Throws IllegalStateException if it would have more than 9")
    static void buyIsUpTo9() {
        for (int i = 1; i <= 9; i++) {
            int have = i;
            Edges.Shop shop = () -> Edges.founts(1, have);
            Edges.Shop out = () -> allOut(have);
            if (have < 9) {
                Edges.answered("buy to 9 beside " + have, 9, shop, x -> x.buy(0, 3, 9 - have));
                Edges.answered("buy to 9 beside " + have + " that are out", 9, out, x -> x.buy(0, 3, 9 - have));
            }
            Edges.refused("buy to 10 beside " + have, Edges.STATE, shop, x -> x.buy(0, 3, 10 - have));
            Edges.refused("buy to 10 beside " + have + " that are out", Edges.STATE, out, x -> x.buy(0, 3, 10 - have));
            Edges.refused("buy(0, 3, 9) beside " + have, Edges.STATE, shop, x -> x.buy(0, 3, 9));
        }
        Edges.answered("buy(0, 3, 9) when 9 broke", 9, EdgesOfFounts::broken, x -> x.buy(0, 3, 9));
    }

    // ---- promise 4

    @Sentence(promise = 4, words = {
        "Buys blocks of all letters, of each only up to 9 in all.",
        "many: how many of each"})
    static void buyAllIsUpTo9OfEach() {
        for (int i = 1; i <= 9; i++) {
            int many = i;
            PosterTypes x = Edges.founts(2, 0);
            for (int letter = 1; letter < 10; letter++) {
                x.buy(0, letter, letter);
            }
            x.buyAll(0, many);
            for (int letter = 0; letter < 10; letter++) {
                String behind = letter + " blocks and buyAll(0, " + many + ")";
                Edges.due("blocks behind " + behind, Math.min(9, letter + many), x.block(0, letter, 0));
                Edges.due("free ones behind " + behind, Math.min(9, letter + many), x.block(0, letter, 1));
                Edges.due("those of another fount", 0, x.block(1, letter, 0));
            }
        }
        PosterTypes y = allOut(9);
        y.buyAll(0, 9);
        Edges.due("blocks of a letter that are all out", 9, y.block(0, 3, 0));
        Edges.due("free ones of it", 0, y.block(0, 3, 1));
    }

    @Sentence(promise = 4, words = "Returns how many come, all added.")
    static void buyAllTellsHowManyCome() {
        for (int i = 0; i <= 9; i++) {
            int have = i;
            for (int j = 1; j <= 9; j++) {
                int many = j;
                Edges.answered("buyAll(0, " + many + ") beside " + have + " of each", 10 * Math.min(many, 9 - have),
                    () -> Edges.founts(1, have), x -> x.buyAll(0, many));
            }
        }
        Edges.answered("buyAll(0, 2) beside 9 of a letter, 8 of another", 17, () -> {
            PosterTypes x = Edges.founts(1, 1);
            x.buy(0, 0, 8);
            x.buy(0, 9, 7);
            return x;
        }, x -> x.buyAll(0, 2));
        Edges.answered("buyAll(0, 9) beside 8 that are out", 1 + 9, () -> allOut(8), x -> x.buyAll(0, 9));
        Edges.answered("buyAll(0, 9) when 9 of a letter broke", 9, EdgesOfFounts::broken, x -> x.buyAll(0, 9));
    }

    @Sentence(promise = 4, words = {
        "fount: a fount",
        "Throws IndexOutOfBoundsException if there is no such fount"})
    static void buyAllWantsAFount() {
        Edges.answered("buyAll(0, 1)", 10, () -> Edges.founts(5, 0), x -> x.buyAll(0, 1));
        Edges.answered("buyAll(4, 1)", 10, () -> Edges.founts(5, 0), x -> x.buyAll(4, 1));
        for (int many : new int[] {1, 0, 10}) {
            for (int fount : new int[] {-1, 5, Integer.MIN_VALUE, Integer.MAX_VALUE}) {
                Edges.refused("buyAll(" + fount + ", " + many + ")", Edges.INDEX, () -> Edges.founts(5, 1),
                    x -> x.buyAll(fount, many));
            }
        }
        Edges.refused("buyAll(0, 1) without founts", Edges.INDEX, PosterTypes::new, x -> x.buyAll(0, 1));
        Edges.refused("buyAll(1, 1) with one", Edges.INDEX, () -> Edges.founts(1, 1), x -> x.buyAll(1, 1));
    }

    @Sentence(promise = 4, words = "Throws IllegalArgumentException if many is not 1 to 9")
    static void buyAllIsOf1To9() {
        Edges.answered("buyAll(0, 1)", 10, () -> Edges.founts(1, 0), x -> x.buyAll(0, 1));
        Edges.answered("buyAll(0, 9)", 90, () -> Edges.founts(1, 0), x -> x.buyAll(0, 9));
        for (int many : NOT_1_TO_9) {
            Edges.refused("buyAll(0, " + many + ")", Edges.ARGUMENT, () -> Edges.founts(1, 0), x -> x.buyAll(0, many));
            Edges.refused("buyAll(0, " + many + ") beside 9 of each", Edges.ARGUMENT, () -> Edges.founts(1, 9),
                x -> x.buyAll(0, many));
        }
    }

    // ---- promise 5

    @Sentence(promise = 5, words = "letter: a letter - other: the one that can stand in its place from now"
        + " on, -1 for none")
    static void setOtherIsFromNowOn() {
        for (int i = -1; i < 10; i++) {
            int other = i;
            if (other != 4) {
                PosterTypes x = Edges.founts(1, 0);
                for (int letter = 0; letter < 10; letter++) {
                    x.buy(0, letter, letter == 4 ? 1 : 2);
                }
                Edges.poster(x, 4);
                Edges.poster(x, 4);
                x.set(0);
                x.setOther(4, other);
                Edges.due("setOther(4, " + other + "), would(1, 1)", other < 0 ? -1 : 1, x.would(1, 1));
                Edges.due("the poster that was set stays without flaws", 0, x.told(0, 5));
                if (other >= 0) {
                    x.set(1);
                    Edges.due("the block that stands in", other, x.about(1, 0, 3));
                    x.setOther(4, -1);
                    Edges.due("it stands in still when none can", other, x.about(1, 0, 3));
                    Edges.due("its flaw", 1, x.told(1, 5));
                }
            }
        }
    }

    @Sentence(promise = 5, words = "Returns the one before, -1 for none.")
    static void setOtherTellsTheOneBefore() {
        for (int letter = 0; letter < 10; letter++) {
            PosterTypes x = new PosterTypes();
            int before = -1;
            for (int other = 0; other < 10; other++) {
                if (other != letter) {
                    Edges.due("setOther(" + letter + ", " + other + ")", before, x.setOther(letter, other));
                    before = other;
                }
            }
            Edges.due("setOther(" + letter + ", " + before + ") again", before, x.setOther(letter, before));
            Edges.due("setOther(" + letter + ", -1)", before, x.setOther(letter, -1));
            Edges.due("setOther(" + letter + ", -1) again", -1, x.setOther(letter, -1));
        }
    }

    @Sentence(promise = 5, words = "Throws IndexOutOfBoundsException if there is no such letter, or other is not -1 to"
        + " 9")
    static void setOtherWantsLetters() {
        Edges.answered("setOther(0, 9)", -1, PosterTypes::new, x -> x.setOther(0, 9));
        Edges.answered("setOther(9, 0)", -1, PosterTypes::new, x -> x.setOther(9, 0));
        Edges.answered("setOther(9, -1)", -1, PosterTypes::new, x -> x.setOther(9, -1));
        Edges.answered("setOther(0, -1)", 9, Edges::busy, x -> x.setOther(0, -1));
        for (int letter : NOT_0_TO_9) {
            for (int other : new int[] {-1, 0, 9, letter}) {
                Edges.refused("setOther(" + letter + ", " + other + ")", Edges.INDEX, Edges::busy,
                    x -> x.setOther(letter, other));
            }
        }
        for (int other : new int[] {-2, 10, Integer.MIN_VALUE, Integer.MAX_VALUE}) {
            for (int letter : new int[] {0, 1, 9}) {
                Edges.refused("setOther(" + letter + ", " + other + ")", Edges.INDEX, Edges::busy,
                    x -> x.setOther(letter, other));
            }
        }
    }

    @Sentence(promise = 5, words = "Throws IllegalArgumentException if both are the same")
    static void setOtherWantsTwoLetters() {
        for (int i = 0; i < 10; i++) {
            int letter = i;
            Edges.refused("setOther(" + letter + ", " + letter + ")", Edges.ARGUMENT, Edges::busy,
                x -> x.setOther(letter, letter));
            for (int other = 0; other < 10; other++) {
                int beside = other;
                if (other != letter) {
                    Edges.answered("setOther(" + letter + ", " + beside + ")", -1, PosterTypes::new,
                        x -> x.setOther(letter, beside));
                }
            }
        }
        Edges.answered("setOther(1, 2) while 1 stands in for 2", -1, () -> {
            PosterTypes x = new PosterTypes();
            x.setOther(2, 1);
            return x;
        }, x -> x.setOther(1, 2));
    }

    // ---- promise 6

    @Sentence(promise = 6, words = "Returns 100 times what it paid, and how strict it was, added.")
    static void setTownTellsWhatWas() {
        for (int pay = 0; pay <= 9; pay++) {
            for (int strict = 0; strict <= 30; strict++) {
                PosterTypes x = new PosterTypes();
                Edges.due("setTown(2, " + pay + ", " + strict + ")", 305, x.setTown(2, pay, strict));
                Edges.due("setTown(2, 9, 30) then", 100 * pay + strict, x.setTown(2, 9, 30));
                Edges.due("setTown(2, 9, 30) again", 930, x.setTown(2, 9, 30));
                Edges.due("setTown(1, 9, 30) of another", 305, x.setTown(1, 9, 30));
                Edges.due("setTown(3, 9, 30) of another", 305, x.setTown(3, 9, 30));
            }
        }
    }

    @Sentence(promise = 6, words = "town: a town - pay: what it pays from now on - strict: how strict it is"
        + " from now on")
    static void setTownIsFromNowOn() {
        PosterTypes x = Edges.founts(1, 1);
        x.setOther(1, 2);
        Edges.posterFor(x, 2, 1, 11);
        x.set(0);
        Edges.due("told(0, 7), pay 3, strict 5", 20 * 3 - 5, x.told(0, 7));
        Edges.due("print(0, 200)", 110, x.print(0, 200));
        int[][] towns = {{9, 30, 150}, {9, 0, 180}, {2, 30, 10}, {1, 20, 0}, {0, 0, 0}, {3, 5, 55}};
        int coins = 110;
        for (int[] row : towns) {
            x.setTown(2, row[0], row[1]);
            Edges.due("told(0, 7), pay " + row[0] + ", strict " + row[1], row[2], x.told(0, 7));
            Edges.due("count(3) ahead of a print", coins, x.count(3));
            coins += 2 * row[2];
            Edges.due("print(0, 200) then", 2 * row[2], x.print(0, 200));
        }
    }

    @Sentence(promise = 6, words = "Throws IndexOutOfBoundsException if there is no such town")
    static void setTownWantsATown() {
        Edges.answered("setTown(0, 1, 1)", 305, PosterTypes::new, x -> x.setTown(0, 1, 1));
        Edges.answered("setTown(3, 1, 1)", 305, PosterTypes::new, x -> x.setTown(3, 1, 1));
        for (int town : new int[] {-1, 4, Integer.MIN_VALUE, Integer.MAX_VALUE}) {
            Edges.refused("setTown(" + town + ", 1, 1)", Edges.INDEX, Edges::busy, x -> x.setTown(town, 1, 1));
            Edges.refused("setTown(" + town + ", -1, 1)", Edges.INDEX, Edges::busy, x -> x.setTown(town, -1, 1));
            Edges.refused("setTown(" + town + ", 1, 31)", Edges.INDEX, Edges::busy, x -> x.setTown(town, 1, 31));
        }
    }

    @Sentence(promise = 6, words = "Throws IllegalArgumentException if pay is not 0 to 9, or strict is not 0 to 30")
    static void setTownWantsPayAndStrictness() {
        for (int pay : new int[] {0, 9}) {
            for (int strict : new int[] {0, 30}) {
                Edges.answered("setTown(1, " + pay + ", " + strict + ")", 711, Edges::busy,
                    x -> x.setTown(1, pay, strict));
            }
        }
        for (int town = 0; town < 4; town++) {
            int one = town;
            for (int pay : NOT_0_TO_9) {
                Edges.refused("setTown(" + one + ", " + pay + ", 0)", Edges.ARGUMENT, Edges::busy,
                    x -> x.setTown(one, pay, 0));
            }
            for (int strict : new int[] {-1, 31, Integer.MIN_VALUE, Integer.MAX_VALUE}) {
                Edges.refused("setTown(" + one + ", 0, " + strict + ")", Edges.ARGUMENT, Edges::busy,
                    x -> x.setTown(one, 0, strict));
                Edges.refused("setTown(" + one + ", 10, " + strict + ")", Edges.ARGUMENT, Edges::busy,
                    x -> x.setTown(one, 10, strict));
            }
        }
    }
}
