/** Each promise of the document by hand-made runs: ordinary inputs, edges, wrong inputs. */
public final class PromisesTest {
    private interface Call {
        long answer();
    }

    private static final Class<? extends RuntimeException> INDEX = IndexOutOfBoundsException.class;
    private static final Class<? extends RuntimeException> ARGUMENT = IllegalArgumentException.class;
    private static final Class<? extends RuntimeException> STATE = IllegalStateException.class;

    private static int wrong = 0;

    private static void due(String call, long want, long got) {
        if (want != got) {
            wrong++;
            System.out.println(call + " answered " + got + ", due is " + want);
        }
    }

    private static void dueDouble(String call, double want, double got) {
        if (want != got) {
            wrong++;
            System.out.println(call + " answered " + got + ", due is " + want);
        }
    }

    /** The call must throw just this exception, and change nothing. */
    private static void dueThrow(String call, Class<? extends RuntimeException> want, PosterTypes x, Call made) {
        long before = x.digest();
        Class<?> got = null;
        long answer = 0;
        try {
            answer = made.answer();
        } catch (RuntimeException e) {
            got = e.getClass();
            dueOwnThrow(call, e);
        }
        if (got != want) {
            wrong++;
            System.out.println(call + (got == null ? " answered " + answer : " threw " + got) + ", due is " + want);
        }
        due("digest() behind " + call + ", which throws,", before, x.digest());
    }

    /** A list's own IndexOutOfBoundsException looks like the one that is due, but the machine threw it. */
    private static void dueOwnThrow(String call, RuntimeException e) {
        StackTraceElement[] trace = e.getStackTrace();
        if (trace.length > 0 && !trace[0].getClassName().split("\\$")[0].equals("PosterTypes")) {
            wrong++;
            System.out.println(call + " threw in " + trace[0] + ", not by a throw of its own");
        }
    }

    public static void main(String[] args) {
        promise1();
        promise2();
        promise3();
        promise4();
        promise5();
        promise6();
        promise7();
        promise8();
        promise9();
        promise9BestFount();
        promise9OthersAndBlocks();
        promise9LowerFountFirst();
        promise10();
        promise11();
        promise11OtherPosters();
        promise12();
        promise13();
        promise14();
        promise15();
        promise16();
        promise17();
        promise18();
        promise18Edges();
        promise19();
        promise20();
        promise21();
        letterZero();
        fullShop();
        System.out.println(wrong == 0 ? "all promises hold" : wrong + " wrong");
        System.exit(wrong == 0 ? 0 : 1);
    }

    private static PosterTypes shop(int height, int many) {
        PosterTypes x = new PosterTypes();
        int fount = x.fount(height);
        x.buyAll(fount, many);
        return x;
    }

    private static int posterOf(PosterTypes x, int town, int tall, int... words) {
        int poster = x.poster(town, tall);
        for (int word : words) {
            x.line(poster, word);
        }
        return poster;
    }

    private static void promise1() {
        PosterTypes x = new PosterTypes();
        for (int what = 0; what <= 6; what++) {
            due("1: count(" + what + ")", 0, x.count(what));
        }
        for (int letter = 0; letter < 10; letter++) {
            due("1: setOther(" + letter + ", -1)", -1, x.setOther(letter, -1));
        }
        for (int town = 0; town < 4; town++) {
            due("1: setTown(" + town + ", 0, 0)", 305, x.setTown(town, 0, 0));
        }
        due("1: next()", -1, x.next());
        PosterTypes other = new PosterTypes();
        other.fount(1);
        due("1: count(0) of another object", 0, x.count(0));
    }

    private static void promise2() {
        PosterTypes x = new PosterTypes();
        for (int height : new int[] {0, -1, 21, Integer.MIN_VALUE, Integer.MAX_VALUE}) {
            dueThrow("2: fount(" + height + ")", ARGUMENT, x, () -> x.fount(height));
        }
        int[] heights = {1, 20, 7, 7, 12};
        for (int i = 0; i < 5; i++) {
            due("2: fount(" + heights[i] + ")", i, x.fount(heights[i]));
            due("2: count(0)", i + 1, x.count(0));
        }
        for (int letter = 0; letter < 10; letter++) {
            for (int what = 0; what < 3; what++) {
                due("2: block(4, " + letter + ", " + what + ")", 0, x.block(4, letter, what));
            }
        }
        dueThrow("2: a sixth fount(5)", STATE, x, () -> x.fount(5));
        dueThrow("2: a sixth fount(0)", ARGUMENT, x, () -> x.fount(0));
        dueThrow("2: a sixth fount(21)", ARGUMENT, x, () -> x.fount(21));
    }

    private static void promise3() {
        PosterTypes x = new PosterTypes();
        dueThrow("3: buy(0, 0, 1) without founts", INDEX, x, () -> x.buy(0, 0, 1));
        x.fount(5);
        x.fount(6);
        due("3: buy(1, 9, 4)", 4, x.buy(1, 9, 4));
        due("3: buy(1, 9, 1)", 5, x.buy(1, 9, 1));
        due("3: block(1, 9, 0)", 5, x.block(1, 9, 0));
        due("3: block(1, 9, 1)", 5, x.block(1, 9, 1));
        due("3: block(0, 9, 0)", 0, x.block(0, 9, 0));
        due("3: block(1, 8, 0)", 0, x.block(1, 8, 0));
        dueThrow("3: buy(1, 9, 5)", STATE, x, () -> x.buy(1, 9, 5));
        dueThrow("3: buy(1, 9, 9)", STATE, x, () -> x.buy(1, 9, 9));
        due("3: buy(1, 9, 4)", 9, x.buy(1, 9, 4));
        dueThrow("3: buy(1, 9, 1)", STATE, x, () -> x.buy(1, 9, 1));
        due("3: buy(0, 0, 9)", 9, x.buy(0, 0, 9));
        for (int many : new int[] {0, -1, 10, Integer.MIN_VALUE, Integer.MAX_VALUE}) {
            dueThrow("3: buy(0, 1, " + many + ")", ARGUMENT, x, () -> x.buy(0, 1, many));
            dueThrow("3: buy(0, 0, " + many + ")", ARGUMENT, x, () -> x.buy(0, 0, many));
            dueThrow("3: buy(2, 0, " + many + ")", INDEX, x, () -> x.buy(2, 0, many));
            dueThrow("3: buy(0, 10, " + many + ")", INDEX, x, () -> x.buy(0, 10, many));
        }
        dueThrow("3: buy(-1, 0, 1)", INDEX, x, () -> x.buy(-1, 0, 1));
        dueThrow("3: buy(2, 0, 1)", INDEX, x, () -> x.buy(2, 0, 1));
        dueThrow("3: buy(0, -1, 1)", INDEX, x, () -> x.buy(0, -1, 1));
        dueThrow("3: buy(0, 10, 1)", INDEX, x, () -> x.buy(0, 10, 1));
        x.set(posterOf(x, 0, 1, 99));
        due("3: buy of a letter with out ones counts them", 3, buyBesideOut());
    }

    private static int buyBesideOut() {
        PosterTypes x = new PosterTypes();
        x.fount(5);
        x.buy(0, 4, 2);
        x.set(posterOf(x, 0, 5, 44));
        return x.buy(0, 4, 1);
    }

    private static void promise4() {
        PosterTypes x = new PosterTypes();
        dueThrow("4: buyAll(0, 1) without founts", INDEX, x, () -> x.buyAll(0, 1));
        x.fount(5);
        x.fount(6);
        due("4: buyAll(0, 2)", 20, x.buyAll(0, 2));
        x.buy(0, 3, 6);
        x.buy(0, 7, 7);
        due("4: buyAll(0, 2)", 8 * 2 + 1, x.buyAll(0, 2));
        due("4: block(0, 3, 0)", 9, x.block(0, 3, 0));
        due("4: block(0, 7, 1)", 9, x.block(0, 7, 1));
        due("4: block(0, 0, 0)", 4, x.block(0, 0, 0));
        due("4: block(0, 9, 1)", 4, x.block(0, 9, 1));
        due("4: block(1, 0, 0)", 0, x.block(1, 0, 0));
        due("4: buyAll(0, 9)", 40, x.buyAll(0, 9));
        due("4: buyAll(0, 9)", 0, x.buyAll(0, 9));
        due("4: count(5)", 90, x.count(5));
        for (int many : new int[] {0, -1, 10, Integer.MIN_VALUE, Integer.MAX_VALUE}) {
            dueThrow("4: buyAll(1, " + many + ")", ARGUMENT, x, () -> x.buyAll(1, many));
            dueThrow("4: buyAll(2, " + many + ")", INDEX, x, () -> x.buyAll(2, many));
        }
        dueThrow("4: buyAll(-1, 1)", INDEX, x, () -> x.buyAll(-1, 1));
        dueThrow("4: buyAll(2, 1)", INDEX, x, () -> x.buyAll(2, 1));
    }

    private static void promise5() {
        PosterTypes x = new PosterTypes();
        due("5: setOther(0, 9)", -1, x.setOther(0, 9));
        due("5: setOther(0, 5)", 9, x.setOther(0, 5));
        due("5: setOther(0, 5)", 5, x.setOther(0, 5));
        due("5: setOther(9, 0)", -1, x.setOther(9, 0));
        due("5: setOther(9, 1)", 0, x.setOther(9, 1));
        due("5: setOther(0, -1)", 5, x.setOther(0, -1));
        due("5: setOther(0, -1)", -1, x.setOther(0, -1));
        int[] no = {-1, 10, -2, Integer.MIN_VALUE, Integer.MAX_VALUE};
        for (int letter : no) {
            dueThrow("5: setOther(" + letter + ", 1)", INDEX, x, () -> x.setOther(letter, 1));
            dueThrow("5: setOther(" + letter + ", itself)", INDEX, x, () -> x.setOther(letter, letter));
        }
        for (int other : new int[] {-2, 10, Integer.MIN_VALUE, Integer.MAX_VALUE}) {
            dueThrow("5: setOther(1, " + other + ")", INDEX, x, () -> x.setOther(1, other));
        }
        for (int letter = 0; letter < 10; letter++) {
            int same = letter;
            dueThrow("5: setOther(" + same + ", " + same + ")", ARGUMENT, x, () -> x.setOther(same, same));
        }
    }

    private static void promise6() {
        PosterTypes x = new PosterTypes();
        due("6: setTown(3, 9, 30)", 305, x.setTown(3, 9, 30));
        due("6: setTown(3, 0, 0)", 930, x.setTown(3, 0, 0));
        due("6: setTown(3, 4, 7)", 0, x.setTown(3, 4, 7));
        due("6: setTown(3, 1, 1)", 407, x.setTown(3, 1, 1));
        due("6: setTown(2, 1, 1)", 305, x.setTown(2, 1, 1));
        int[] noPays = {-1, 10, Integer.MIN_VALUE, Integer.MAX_VALUE};
        int[] noStricts = {-1, 31, Integer.MIN_VALUE, Integer.MAX_VALUE};
        for (int pay : noPays) {
            dueThrow("6: setTown(0, " + pay + ", 0)", ARGUMENT, x, () -> x.setTown(0, pay, 0));
            dueThrow("6: setTown(4, " + pay + ", 0)", INDEX, x, () -> x.setTown(4, pay, 0));
        }
        for (int strict : noStricts) {
            dueThrow("6: setTown(0, 0, " + strict + ")", ARGUMENT, x, () -> x.setTown(0, 0, strict));
            dueThrow("6: setTown(-1, 0, " + strict + ")", INDEX, x, () -> x.setTown(-1, 0, strict));
        }
        dueThrow("6: setTown(-1, 0, 0)", INDEX, x, () -> x.setTown(-1, 0, 0));
        dueThrow("6: setTown(4, 0, 0)", INDEX, x, () -> x.setTown(4, 0, 0));
        due("6: setTown(0, 2, 3) behind those that throw", 305, x.setTown(0, 2, 3));
    }

    private static void promise7() {
        PosterTypes x = new PosterTypes();
        for (int town : new int[] {-1, 4, Integer.MIN_VALUE, Integer.MAX_VALUE}) {
            dueThrow("7: poster(" + town + ", 1)", INDEX, x, () -> x.poster(town, 1));
            dueThrow("7: poster(" + town + ", 0)", INDEX, x, () -> x.poster(town, 0));
        }
        for (int tall : new int[] {0, -1, 21, Integer.MIN_VALUE, Integer.MAX_VALUE}) {
            dueThrow("7: poster(0, " + tall + ")", ARGUMENT, x, () -> x.poster(0, tall));
        }
        int[] talls = {1, 20, 3, 4, 5, 6};
        for (int i = 0; i < 6; i++) {
            due("7: poster(" + i % 4 + ", " + talls[i] + ")", i, x.poster(i % 4, talls[i]));
            due("7: told(" + i + ", 0)", i % 4, x.told(i, 0));
            due("7: told(" + i + ", 1)", talls[i], x.told(i, 1));
            for (int what = 2; what <= 7; what++) {
                due("7: told(" + i + ", " + what + ")", 0, x.told(i, what));
            }
        }
        dueThrow("7: a seventh poster(0, 1)", STATE, x, () -> x.poster(0, 1));
        dueThrow("7: a seventh poster(0, 0)", ARGUMENT, x, () -> x.poster(0, 0));
        dueThrow("7: a seventh poster(4, 1)", INDEX, x, () -> x.poster(4, 1));
    }

    private static void promise8() {
        PosterTypes x = shop(5, 9);
        dueThrow("8: line(0, 1) without posters", INDEX, x, () -> x.line(0, 1));
        x.poster(0, 5);
        due("8: line(0, 0)", 0, x.line(0, 0));
        due("8: line(0, 99999999)", 1, x.line(0, 99999999));
        due("8: line(0, 10)", 2, x.line(0, 10));
        int[] wrongWords = {-1, 100000000, Integer.MIN_VALUE, Integer.MAX_VALUE};
        for (int word : wrongWords) {
            dueThrow("8: line(0, " + word + ")", ARGUMENT, x, () -> x.line(0, word));
            dueThrow("8: line(1, " + word + ")", INDEX, x, () -> x.line(1, word));
        }
        dueThrow("8: line(-1, 1)", INDEX, x, () -> x.line(-1, 1));
        due("8: about(0, 0, 0)", 1, x.about(0, 0, 0));
        due("8: about(0, 1, 0)", 8, x.about(0, 1, 0));
        due("8: about(0, 2, 0)", 2, x.about(0, 2, 0));
        x.set(0);
        dueThrow("8: line(0, 1) of a set poster", STATE, x, () -> x.line(0, 1));
        dueThrow("8: line(0, -1) of a set poster", ARGUMENT, x, () -> x.line(0, -1));
        x.strike(0);
        due("8: line(0, 12345) of a struck poster", 3, x.line(0, 12345));
        dueThrow("8: a fifth line(0, 1)", STATE, x, () -> x.line(0, 1));
        dueThrow("8: a fifth line(0, 100000000)", ARGUMENT, x, () -> x.line(0, 100000000));
        due("8: told(0, 3)", 16, x.told(0, 3));
    }

    private static void promise9() {
        PosterTypes x = shop(5, 2);
        dueThrow("9: set(0) without posters", INDEX, x, () -> x.set(0));
        dueThrow("9: set(-1)", INDEX, x, () -> x.set(-1));
        x.poster(0, 5);
        dueThrow("9: set(0) without lines", STATE, x, () -> x.set(0));
        x.line(0, 1123);
        x.line(0, 45);
        due("9: set(0)", 0, x.set(0));
        due("9: block(0, 1, 1)", 0, x.block(0, 1, 1));
        due("9: block(0, 1, 0)", 2, x.block(0, 1, 0));
        due("9: block(0, 2, 1)", 1, x.block(0, 2, 1));
        due("9: block(0, 5, 1)", 1, x.block(0, 5, 1));
        due("9: block(0, 0, 1)", 2, x.block(0, 0, 1));
        due("9: count(6)", 6, x.count(6));
        dueThrow("9: set(0) again", STATE, x, () -> x.set(0));
        int second = posterOf(x, 0, 5, 22, 2);
        dueThrow("9: set of a poster with more than is free", STATE, x, () -> x.set(second));
        int third = posterOf(x, 0, 5, 3, 11);
        dueThrow("9: set with a second line that cannot be", STATE, x, () -> x.set(third));
        due("9: block(0, 3, 1): no block is out by it", 1, x.block(0, 3, 1));
        int fourth = posterOf(x, 0, 6, 0);
        dueThrow("9: set of a poster that wants a higher fount", STATE, x, () -> x.set(fourth));
        x.strike(0);
        due("9: set(third) when blocks are free", 0, x.set(third));
    }

    private static void promise9BestFount() {
        PosterTypes x = new PosterTypes();
        int[] heights = {9, 14, 14, 10};
        for (int height : heights) {
            x.buyAll(x.fount(height), 1);
        }
        int poster = posterOf(x, 0, 10, 12, 12, 12, 3);
        due("9: set of founts", 0, x.set(poster));
        due("9: the highest fount, smallest number", 1, x.about(poster, 0, 1));
        due("9: the next of the same height", 2, x.about(poster, 1, 1));
        due("9: a lower one, as high as is wanted", 3, x.about(poster, 2, 1));
        due("9: the highest one again", 1, x.about(poster, 3, 1));
        PosterTypes y = new PosterTypes();
        y.setOther(1, 2);
        y.buy(y.fount(20), 2, 2);
        y.buyAll(y.fount(5), 1);
        int clean = posterOf(y, 0, 5, 12);
        due("9: fewest flaws come ahead of height", 0, y.set(clean));
        due("9: the lower fount without flaws", 1, y.about(clean, 0, 1));
        int flawed = posterOf(y, 0, 5, 12);
        due("9: the flaw when no other is left", 1, y.set(flawed));
        due("9: the fount with the flaw", 0, y.about(flawed, 0, 1));
        due("9: its blocks", 22, y.about(flawed, 0, 3));
    }

    private static void promise9OthersAndBlocks() {
        PosterTypes x = new PosterTypes();
        x.fount(5);
        x.buy(0, 1, 1);
        x.buy(0, 2, 1);
        x.setOther(1, 2);
        int taken = posterOf(x, 0, 5, 112);
        dueThrow("9: a later letter lacks the block that stands in", STATE, x, () -> x.set(taken));
        x.setOther(2, 3);
        dueThrow("9: nor is there one of the third letter", STATE, x, () -> x.set(taken));
        x.buy(0, 3, 1);
        due("9: with one of it", 2, x.set(taken));
        due("9: blocks of it", 123, x.about(taken, 0, 3));
        PosterTypes y = new PosterTypes();
        y.fount(5);
        y.buy(0, 3, 2);
        y.setOther(1, 2);
        y.setOther(2, 3);
        int far = posterOf(y, 0, 5, 1);
        dueThrow("9: only its own other one stands in, not that one's", STATE, y, () -> y.set(far));
        y.setOther(1, 3);
        due("9: a flaw", 1, y.set(far));
        due("9: a block of letter 3", 1, y.block(0, 3, 1));
        PosterTypes z = new PosterTypes();
        z.fount(5);
        z.buy(0, 0, 1);
        z.setOther(7, 0);
        int zero = posterOf(z, 0, 5, 7);
        due("9: letter 0 stands in", 1, z.set(zero));
        due("9: the word 0 of it", 0, z.about(zero, 0, 3));
    }

    private static void promise9LowerFountFirst() {
        PosterTypes x = new PosterTypes();
        x.buyAll(x.fount(5), 2);
        x.buy(x.fount(9), 2, 2);
        x.buyAll(x.fount(7), 1);
        x.setOther(1, 2);
        int poster = posterOf(x, 0, 5, 1, 2, 1, 1);
        due("9: set of a higher fount behind a lower one", 0, x.set(poster));
        due("9: of 5 and 7 without flaws, 9 with one", 2, x.about(poster, 0, 1));
        due("9: of all three without flaws", 1, x.about(poster, 1, 1));
        due("9: of 5 without flaws, 9 with one", 0, x.about(poster, 2, 1));
        due("9: of 5 without flaws, 9 with one, again", 0, x.about(poster, 3, 1));
        int behind = posterOf(x, 0, 5, 1);
        due("9: with a flaw in all that can, the highest", 1, x.set(behind));
        due("9: of 5, 7 and 9 with one flaw", 1, x.about(behind, 0, 1));
    }

    private static void promise10() {
        PosterTypes x = shop(7, 3);
        dueThrow("10: print(0, 1) without posters", INDEX, x, () -> x.print(0, 1));
        dueThrow("10: print(-1, 0)", INDEX, x, () -> x.print(-1, 0));
        int poster = posterOf(x, 1, 7, 114, 1);
        dueThrow("10: print of a poster that is not set", STATE, x, () -> x.print(poster, 1));
        x.set(poster);
        for (int copies : new int[] {0, -1, 501, Integer.MIN_VALUE, Integer.MAX_VALUE}) {
            dueThrow("10: print(0, " + copies + ")", ARGUMENT, x, () -> x.print(poster, copies));
        }
        due("10: told(0, 7)", 7 * 4 * 3, x.told(poster, 7));
        due("10: print(0, 1)", 0, x.print(poster, 1));
        due("10: print(0, 5)", 4, x.print(poster, 5));
        due("10: print(0, 500)", 420, x.print(poster, 500));
        due("10: count(3)", 424, x.count(3));
        due("10: told(0, 6)", 506, x.told(poster, 6));
        due("10: wear of 1, three blocks out", 3 * 506, x.block(0, 1, 2));
        due("10: wear of 4, one block out", 506, x.block(0, 4, 2));
        due("10: wear of 2, none out", 0, x.block(0, 2, 2));
        due("10: nothing breaks yet", 3, x.block(0, 1, 0));
        x.setTown(1, 9, 0);
        due("10: print(0, 100) by what the town pays now", 252, x.print(poster, 100));
        x.strike(poster);
        dueThrow("10: print of a struck poster", STATE, x, () -> x.print(poster, 1));
        dueThrow("10: wrong copies of a struck poster", ARGUMENT, x, () -> x.print(poster, 0));
        due("10: told(0, 6) of a struck poster", 606, x.told(poster, 6));
        PosterTypes y = new PosterTypes();
        y.buy(y.fount(1), 2, 1);
        y.setOther(1, 2);
        int poor = posterOf(y, 0, 1, 1);
        y.set(poor);
        due("10: proof is at least 0", 0, y.print(poor, 500));
        due("10: wear of the letter that stands in", 500, y.block(0, 2, 2));
        due("10: no wear of the missing one", 0, y.block(0, 1, 2));
    }

    private static void promise11() {
        PosterTypes x = shop(5, 2);
        dueThrow("11: strike(0) without posters", INDEX, x, () -> x.strike(0));
        dueThrow("11: strike(-1)", INDEX, x, () -> x.strike(-1));
        int poster = posterOf(x, 0, 5, 11, 2);
        dueThrow("11: strike of a poster that is not set", STATE, x, () -> x.strike(poster));
        x.set(poster);
        due("11: strike without wear", 0, x.strike(poster));
        due("11: told(0, 4)", 0, x.told(poster, 4));
        due("11: block(0, 1, 1)", 2, x.block(0, 1, 1));
        dueThrow("11: strike again", STATE, x, () -> x.strike(poster));
        x.set(poster);
        x.print(poster, 199);
        due("11: strike with a wear of 398 and 199", 0, x.strike(poster));
        x.set(poster);
        x.print(poster, 1);
        due("11: strike with a wear of 400 and 200", 1, x.strike(poster));
        due("11: block(0, 1, 0)", 1, x.block(0, 1, 0));
        due("11: block(0, 1, 1)", 1, x.block(0, 1, 1));
        due("11: block(0, 1, 2)", 0, x.block(0, 1, 2));
        due("11: block(0, 2, 2)", 200, x.block(0, 2, 2));
        due("11: count(4)", 1, x.count(4));
        due("11: count(5)", 19, x.count(5));
        x.buy(0, 1, 1);
        x.set(poster);
        x.print(poster, 500);
        x.print(poster, 500);
        due("11: strike with a wear of 2000 and 1200, 2 blocks each", 4, x.strike(poster));
        due("11: block(0, 1, 0)", 0, x.block(0, 1, 0));
        due("11: block(0, 1, 2)", 1200, x.block(0, 1, 2));
        due("11: block(0, 2, 2)", 400, x.block(0, 2, 2));
        due("11: count(4)", 5, x.count(4));
    }

    private static void promise11OtherPosters() {
        PosterTypes x = shop(5, 2);
        x.fount(9);
        x.buy(1, 8, 3);
        int long8 = posterOf(x, 0, 9, 8);
        int short3 = posterOf(x, 0, 5, 3);
        x.set(long8);
        x.set(short3);
        x.print(long8, 500);
        x.print(long8, 500);
        due("11: strike of another poster breaks free ones", 2, x.strike(short3));
        due("11: block(1, 8, 0)", 1, x.block(1, 8, 0));
        due("11: block(1, 8, 1)", 0, x.block(1, 8, 1));
        due("11: block(1, 8, 2)", 200, x.block(1, 8, 2));
        x.print(long8, 500);
        x.set(short3);
        due("11: an out one does not break", 0, x.strike(short3));
        due("11: block(1, 8, 2)", 700, x.block(1, 8, 2));
        due("11: it breaks when its poster is struck", 1, x.strike(long8));
        due("11: block(1, 8, 2)", 300, x.block(1, 8, 2));
        due("11: count(4)", 3, x.count(4));
    }

    private static void promise12() {
        PosterTypes x = new PosterTypes();
        dueThrow("12: block(0, 0, 0) without founts", INDEX, x, () -> x.block(0, 0, 0));
        x.buyAll(x.fount(5), 4);
        int poster = posterOf(x, 0, 5, 9);
        x.set(poster);
        x.print(poster, 7);
        due("12: block(0, 9, 0)", 4, x.block(0, 9, 0));
        due("12: block(0, 9, 1)", 3, x.block(0, 9, 1));
        due("12: block(0, 9, 2)", 7, x.block(0, 9, 2));
        for (int no : new int[] {-1, 3, Integer.MIN_VALUE, Integer.MAX_VALUE}) {
            dueThrow("12: block(0, 0, " + no + ")", INDEX, x, () -> x.block(0, 0, no));
            dueThrow("12: block(" + no + ", 0, 0)", INDEX, x, () -> x.block(no, 0, 0));
        }
        dueThrow("12: block(1, 0, 0)", INDEX, x, () -> x.block(1, 0, 0));
        dueThrow("12: block(0, -1, 0)", INDEX, x, () -> x.block(0, -1, 0));
        dueThrow("12: block(0, 10, 0)", INDEX, x, () -> x.block(0, 10, 0));
    }

    private static void promise13() {
        PosterTypes x = new PosterTypes();
        dueThrow("13: told(0, 0) without posters", INDEX, x, () -> x.told(0, 0));
        x.fount(6);
        x.buy(0, 1, 1);
        x.buy(0, 2, 3);
        x.setOther(1, 2);
        x.setTown(2, 4, 10);
        int poster = posterOf(x, 2, 3, 11, 21);
        long[] before = {2, 3, 2, 4, 0, 0, 0, 0};
        for (int what = 0; what < 8; what++) {
            due("13: told(0, " + what + ") not set", before[what], x.told(poster, what));
        }
        x.set(poster);
        x.print(poster, 3);
        x.print(poster, 4);
        long[] then = {2, 3, 2, 4, 1, 2, 7, 6 * 4 * 4 - 2 * 10};
        for (int what = 0; what < 8; what++) {
            due("13: told(0, " + what + ") set", then[what], x.told(poster, what));
        }
        x.setTown(2, 1, 11);
        due("13: proof by what the town pays and asks now", 6 * 4 - 22, x.told(poster, 7));
        x.setTown(2, 1, 12);
        due("13: proof of 0", 0, x.told(poster, 7));
        x.setTown(2, 1, 13);
        due("13: proof is at least 0", 0, x.told(poster, 7));
        x.setOther(1, -1);
        due("13: flaws stay as it was set", 2, x.told(poster, 5));
        x.strike(poster);
        long[] behind = {2, 3, 2, 4, 0, 0, 7, 0};
        for (int what = 0; what < 8; what++) {
            due("13: told(0, " + what + ") struck", behind[what], x.told(poster, what));
        }
        for (int no : new int[] {-1, 8, Integer.MIN_VALUE, Integer.MAX_VALUE}) {
            dueThrow("13: told(0, " + no + ")", INDEX, x, () -> x.told(0, no));
            dueThrow("13: told(" + no + ", 0)", INDEX, x, () -> x.told(no, 0));
        }
        dueThrow("13: told(1, 0)", INDEX, x, () -> x.told(1, 0));
    }

    private static void promise14() {
        PosterTypes x = new PosterTypes();
        dueThrow("14: about(0, 0, 0) without posters", INDEX, x, () -> x.about(0, 0, 0));
        x.fount(3);
        x.fount(8);
        x.buy(1, 0, 2);
        x.buy(1, 5, 2);
        x.buy(0, 7, 1);
        x.setOther(9, 0);
        int poster = posterOf(x, 0, 2, 950, 7);
        dueThrow("14: about(0, 2, 0)", INDEX, x, () -> x.about(poster, 2, 0));
        due("14: would(0, 1)", 1, x.would(poster, 1));
        due("14: about(0, 0, 0) not set", 3, x.about(poster, 0, 0));
        for (int what = 1; what < 4; what++) {
            due("14: about(0, 0, " + what + ") not set", -1, x.about(poster, 0, what));
        }
        x.set(poster);
        long[] first = {3, 1, 1, 50};
        long[] second = {1, 0, 0, 7};
        for (int what = 0; what < 4; what++) {
            due("14: about(0, 0, " + what + ")", first[what], x.about(poster, 0, what));
            due("14: about(0, 1, " + what + ")", second[what], x.about(poster, 1, what));
        }
        x.setOther(9, 5);
        x.advise(poster);
        x.would(poster, 0);
        x.next();
        due("14: it stays as it was set", 50, x.about(poster, 0, 3));
        x.strike(poster);
        due("14: about(0, 1, 0) struck", 1, x.about(poster, 1, 0));
        for (int what = 1; what < 4; what++) {
            due("14: about(0, 1, " + what + ") struck", -1, x.about(poster, 1, what));
        }
        for (int no : new int[] {-1, 4, Integer.MIN_VALUE, Integer.MAX_VALUE}) {
            dueThrow("14: about(0, 0, " + no + ")", INDEX, x, () -> x.about(0, 0, no));
            dueThrow("14: about(0, " + no + ", 0)", INDEX, x, () -> x.about(0, no, 0));
            dueThrow("14: about(" + no + ", 0, 0)", INDEX, x, () -> x.about(no, 0, 0));
        }
        dueThrow("14: about(1, 0, 0)", INDEX, x, () -> x.about(1, 0, 0));
        x.poster(0, 1);
        dueThrow("14: about(1, 0, 0) without lines", INDEX, x, () -> x.about(1, 0, 0));
    }

    private static void promise15() {
        PosterTypes x = shop(10, 3);
        x.buy(x.fount(2), 4, 1);
        int first = posterOf(x, 0, 10, 123, 45);
        int second = posterOf(x, 0, 2, 4);
        x.poster(0, 20);
        x.set(first);
        x.set(second);
        x.print(first, 200);
        x.print(second, 200);
        long[] want = {2, 3, 2, 2 * 150 + 2 * 30, 0, 31, 6};
        for (int what = 0; what < 7; what++) {
            due("15: count(" + what + ")", want[what], x.count(what));
        }
        x.print(first, 200);
        x.strike(first);
        long[] then = {2, 3, 1, 4 * 150 + 2 * 30, 5, 26, 1};
        for (int what = 0; what < 7; what++) {
            due("15: count(" + what + ") behind a strike", then[what], x.count(what));
        }
        for (int no : new int[] {-1, 7, Integer.MIN_VALUE, Integer.MAX_VALUE}) {
            dueThrow("15: count(" + no + ")", INDEX, x, () -> x.count(no));
        }
    }

    private static void promise16() {
        PosterTypes x = new PosterTypes();
        dueThrow("16: would(0, 0) without posters", INDEX, x, () -> x.would(0, 0));
        x.fount(6);
        x.buy(0, 1, 1);
        x.buy(0, 2, 2);
        x.poster(3, 6);
        due("16: would(0, 0) without lines", -1, x.would(0, 0));
        due("16: would(0, 1) without lines", -1, x.would(0, 1));
        x.line(0, 112);
        due("16: would(0, 0) that cannot be set", -1, x.would(0, 0));
        due("16: would(0, 1) that cannot be set", -1, x.would(0, 1));
        x.setOther(1, 2);
        long before = x.digest();
        due("16: would(0, 0)", 6 * 3 * 3 - 5, x.would(0, 0));
        due("16: would(0, 1)", 1, x.would(0, 1));
        due("16: nothing is changed", before, x.digest());
        x.setTown(3, 0, 30);
        due("16: would(0, 0) is at least 0", 0, x.would(0, 0));
        due("16: told(0, 7) while not set", 0, x.told(0, 7));
        due("16: set(0) does as would says", 1, x.set(0));
        due("16: would(0, 0) set already", -1, x.would(0, 0));
        due("16: would(0, 1) set already", -1, x.would(0, 1));
        for (int no : new int[] {-1, 2, Integer.MIN_VALUE, Integer.MAX_VALUE}) {
            dueThrow("16: would(0, " + no + ")", INDEX, x, () -> x.would(0, no));
            dueThrow("16: would(" + no + ", 0)", INDEX, x, () -> x.would(no, 0));
        }
        dueThrow("16: would(1, 0)", INDEX, x, () -> x.would(1, 0));
        dueThrow("16: would(1, 1)", INDEX, x, () -> x.would(1, 1));
    }

    private static void promise17() {
        PosterTypes x = shop(5, 3);
        due("17: next() without posters", -1, x.next());
        x.poster(0, 5);
        due("17: next() without lines", -1, x.next());
        int unfit = posterOf(x, 0, 6, 1);
        due("17: next() when none can be set", -1, x.next());
        int first = posterOf(x, 0, 5, 12);
        int same = posterOf(x, 1, 5, 34);
        int more = posterOf(x, 2, 5, 345);
        long before = x.digest();
        due("17: next() is the greatest", more, x.next());
        due("17: nothing is changed", before, x.digest());
        x.set(more);
        due("17: next() leaves set ones, of several the smallest", first, x.next());
        x.setTown(1, 4, 5);
        due("17: next() by what towns pay", same, x.next());
        x.setTown(0, 0, 0);
        x.setTown(1, 0, 0);
        due("17: next() with a proof of 0", first, x.next());
        x.set(first);
        x.set(same);
        due("17: next() when all are set or unfit", -1, x.next());
        x.buyAll(x.fount(6), 1);
        x.setTown(0, 0, 0);
        due("17: next() of one that fits now", unfit, x.next());
    }

    private static void promise18() {
        PosterTypes x = new PosterTypes();
        dueThrow("18: advise(0) without posters", INDEX, x, () -> x.advise(0));
        dueThrow("18: advise(-1)", INDEX, x, () -> x.advise(-1));
        x.poster(0, 5);
        due("18: advise(0) without lines", -1, x.advise(0));
        x.line(0, 12);
        due("18: advise(0) without founts", -1, x.advise(0));
        x.fount(4);
        x.fount(5);
        due("18: advise(0) that one block does not help", -1, x.advise(0));
        x.buy(0, 1, 1);
        due("18: a low fount does not help", -1, x.advise(0));
        x.buy(1, 1, 1);
        long before = x.digest();
        due("18: the missing letter", 12, x.advise(0));
        due("18: nothing is changed", before, x.digest());
        x.setOther(2, 7);
        due("18: rather without a flaw", 12, x.advise(0));
        x.buy(1, 7, 1);
        due("18: fewer flaws than without", 12, x.advise(0));
        x.setOther(2, 0);
        x.buy(1, 2, 1);
        due("18: nothing to mend", -1, x.advise(0));
        x.set(0);
        due("18: set already", -1, x.advise(0));
    }

    private static void promise18Edges() {
        PosterTypes x = new PosterTypes();
        x.fount(5);
        x.fount(9);
        x.buyAll(0, 9);
        int poster = posterOf(x, 0, 5, 88888888);
        int rest = posterOf(x, 0, 5, 88);
        x.set(poster);
        due("18: a letter with 9 blocks does not count, other founts lack more", -1, x.advise(rest));
        x.buy(1, 8, 1);
        due("18: a block of the other fount", 18, x.advise(rest));
        x.setOther(8, 3);
        due("18: 9 blocks of 3 do not count either", 18, x.advise(rest));
        PosterTypes y = new PosterTypes();
        y.fount(5);
        y.buy(0, 1, 1);
        y.fount(5);
        y.buy(1, 2, 1);
        y.setOther(2, 6);
        int two = posterOf(y, 0, 5, 12);
        due("18: of several the smallest", 2, y.advise(two));
        PosterTypes z = new PosterTypes();
        z.fount(5);
        z.buy(0, 4, 2);
        z.setOther(1, 4);
        z.setOther(2, 4);
        int flawed = posterOf(z, 0, 5, 12);
        due("18: two flaws without", 2, z.would(flawed, 1));
        due("18: of as few flaws the smallest letter", 1, z.advise(flawed));
        PosterTypes v = new PosterTypes();
        v.fount(5);
        v.setOther(1, 0);
        int alone = posterOf(v, 0, 5, 1);
        due("18: fewest flaws come ahead of the smallest number", 1, v.advise(alone));
    }

    private static void promise19() {
        PosterTypes x = shop(5, 4);
        dueThrow("19: lasts(0) without posters", INDEX, x, () -> x.lasts(0));
        dueThrow("19: lasts(-1)", INDEX, x, () -> x.lasts(-1));
        int one = posterOf(x, 0, 5, 7);
        dueThrow("19: lasts of a poster that is not set", STATE, x, () -> x.lasts(one));
        x.set(one);
        due("19: one block", 400, x.lasts(one));
        x.print(one, 399);
        due("19: wear of 399", 1, x.lasts(one));
        int three = posterOf(x, 0, 5, 12, 1, 1);
        x.set(three);
        due("19: three blocks over lines, rounded up", 134, x.lasts(three));
        x.print(three, 133);
        due("19: wear of 399 and three blocks", 1, x.lasts(three));
        x.print(three, 1);
        due("19: wear of 402", 0, x.lasts(three));
        x.print(one, 1);
        due("19: wear of 400", 0, x.lasts(one));
        x.strike(one);
        dueThrow("19: lasts of a struck poster", STATE, x, () -> x.lasts(one));
        PosterTypes y = new PosterTypes();
        y.buy(y.fount(5), 1, 1);
        y.buy(y.fount(6), 1, 1);
        int apart = posterOf(y, 0, 5, 1, 1);
        y.set(apart);
        due("19: the letter in two founts", 400, y.lasts(apart));
        y.print(apart, 150);
        due("19: the letter in two founts, worn", 250, y.lasts(apart));
        y.buy(0, 2, 2);
        y.setOther(1, 2);
        int stand = posterOf(y, 0, 5, 21);
        y.set(stand);
        due("19: letters that stand in", 200, y.lasts(stand));
    }

    private static void promise20() {
        PosterTypes x = new PosterTypes();
        dueDouble("20: mean() of nothing", 0.0, x.mean());
        x.fount(5);
        x.buy(0, 2, 9);
        x.setOther(1, 2);
        int first = posterOf(x, 0, 5, 122, 2);
        int second = posterOf(x, 0, 5, 112);
        dueDouble("20: mean() without set ones", 0.0, x.mean());
        x.set(first);
        dueDouble("20: mean()", 1.0 / 4.0, x.mean());
        x.set(second);
        dueDouble("20: mean() of both", 3.0 / 7.0, x.mean());
        x.strike(first);
        dueDouble("20: mean() of the second", 2.0 / 3.0, x.mean());
        x.strike(second);
        dueDouble("20: mean() of none again", 0.0, x.mean());
    }

    private static void promise21() {
        PosterTypes x = new PosterTypes();
        long d = 1721;
        for (int i = 0; i < 7; i++) {
            d = d * 31;
        }
        for (int i = 0; i < 10; i++) {
            d = d * 31 - 1;
        }
        due("21: digest() of a new object", d, x.digest());
        x.fount(11);
        x.fount(3);
        x.buyAll(0, 2);
        x.buy(1, 6, 5);
        x.setOther(6, 0);
        x.setOther(3, 9);
        int first = posterOf(x, 2, 10, 606, 31);
        posterOf(x, 1, 3, 66);
        x.set(first);
        x.print(first, 450);
        x.set(1);
        due("21: digest()", digestByHand(x, new int[] {-1, -1, -1, 9, -1, -1, 0, -1, -1, -1}, 11, 3), x.digest());
        x.strike(first);
        due("21: digest() behind a strike",
            digestByHand(x, new int[] {-1, -1, -1, 9, -1, -1, 0, -1, -1, -1}, 11, 3), x.digest());
    }

    private static long digestByHand(PosterTypes x, int[] others, int... heights) {
        long d = 1721;
        for (int what = 0; what < 7; what++) {
            d = d * 31 + x.count(what);
        }
        for (int other : others) {
            d = d * 31 + other;
        }
        for (int fount = 0; fount < heights.length; fount++) {
            d = d * 31 + heights[fount];
            for (int letter = 0; letter < 10; letter++) {
                for (int what = 0; what < 3; what++) {
                    d = d * 31 + x.block(fount, letter, what);
                }
            }
        }
        for (int poster = 0; poster < x.count(1); poster++) {
            for (int what = 0; what < 8; what++) {
                d = d * 31 + x.told(poster, what);
            }
            for (int line = 0; line < x.told(poster, 2); line++) {
                for (int what = 0; what < 4; what++) {
                    d = d * 31 + x.about(poster, line, what);
                }
            }
        }
        return d;
    }

    /** The first letter, fount and poster are as good as the others. */
    private static void letterZero() {
        PosterTypes x = new PosterTypes();
        x.fount(4);
        int poster = posterOf(x, 0, 4, 0);
        due("zero: advise", 0, x.advise(poster));
        x.buy(0, 0, 1);
        due("zero: next", 0, x.next());
        x.line(poster, 0);
        due("zero: the second line lacks what the first takes", -1, x.would(poster, 1));
        x.buy(0, 0, 1);
        due("zero: set", 0, x.set(poster));
        due("zero: free blocks", 0, x.block(0, 0, 1));
        due("zero: count(6)", 2, x.count(6));
        due("zero: lasts", 200, x.lasts(poster));
        due("zero: print", 2 * 4 * 3 * 300 / 100, x.print(poster, 300));
        due("zero: wear", 600, x.block(0, 0, 2));
        due("zero: strike", 1, x.strike(poster));
        due("zero: free blocks behind it", 1, x.block(0, 0, 1));
        due("zero: wear behind it", 200, x.block(0, 0, 2));
        PosterTypes y = new PosterTypes();
        y.buy(y.fount(4), 1, 1);
        y.setOther(0, 1);
        y.set(posterOf(y, 0, 4, 0));
        dueDouble("zero: mean() of one letter", 1.0, y.mean());
    }

    /** The greatest numbers that the document allows, all at once. */
    private static void fullShop() {
        PosterTypes x = new PosterTypes();
        for (int fount = 0; fount < 5; fount++) {
            x.buyAll(x.fount(20), 9);
        }
        x.setTown(0, 9, 0);
        int poster = posterOf(x, 0, 20, 99999999, 99999999, 99999999, 99999999);
        due("full: set", 0, x.set(poster));
        due("full: proof", 20 * 32 * 9, x.told(poster, 7));
        due("full: lasts", 50, x.lasts(poster));
        long coins = 0;
        for (int i = 0; i < 400; i++) {
            coins += x.print(poster, 500);
        }
        due("full: coins", 400L * (5760 * 500 / 100), coins);
        due("full: count(3)", coins, x.count(3));
        due("full: wear", 400L * 500 * 8, x.block(3, 9, 2));
        due("full: the fifth fount is not needed", 0, x.block(4, 9, 2));
        due("full: strike", 4 * 9, x.strike(poster));
        due("full: wear behind it", 400L * 500 * 8 - 9 * 400, x.block(0, 9, 2));
    }
}
