import java.util.ArrayList;
import java.util.Comparator;
import java.util.HashMap;
import java.util.List;
import java.util.Map;
import java.util.Random;

/** Random runs of 511 calls, each answer held against a plainer shop in which each block is an object. */
public final class ModelTest {
    private static final int RUNS = 300;
    /** Each is followed by a digest(), and one comes ahead of all: a shop has but 512 calls. */
    private static final int CALLS = 255;

    private static final class Piece {
        final int fount;
        final int letter;
        int poster = -1;

        Piece(int fount, int letter) {
            this.fount = fount;
            this.letter = letter;
        }
    }

    private static final class Row {
        final String word;
        int fount = -1;
        int flaws = -1;
        String blocks = "-1";

        Row(String word) {
            this.word = word;
        }
    }

    private static final class Bill {
        int town;
        int tall;
        boolean isSet;
        int copies;
        final List<Row> rows = new ArrayList<>();
    }

    /** How one line would be set: the pieces that it takes, in their order. */
    private record Way(int fount, int height, int flaws, List<Piece> pieces) {
    }

    private static final class Model {
        final List<Integer> heights = new ArrayList<>();
        final List<Piece> pieces = new ArrayList<>();
        final Map<Integer, Integer> others = new HashMap<>();
        final Map<String, Integer> wear = new HashMap<>();
        final int[][] towns = {{3, 5}, {3, 5}, {3, 5}, {3, 5}};
        final List<Bill> bills = new ArrayList<>();
        int coins;
        int broken;

        static void index(boolean fine) {
            if (!fine) {
                throw new IndexOutOfBoundsException();
            }
        }

        static void argument(boolean fine) {
            if (!fine) {
                throw new IllegalArgumentException();
            }
        }

        static void state(boolean fine) {
            if (!fine) {
                throw new IllegalStateException();
            }
        }

        static boolean in(int x, int from, int to) {
            return from <= x && x <= to;
        }

        Bill bill(int poster) {
            index(in(poster, 0, bills.size() - 1));
            return bills.get(poster);
        }

        int have(int fount, int letter) {
            return (int) pieces.stream().filter(p -> p.fount == fount && p.letter == letter).count();
        }

        int out(int fount, int letter, int poster) {
            return (int) pieces.stream().filter(p -> p.fount == fount && p.letter == letter && p.poster >= 0
                && (poster < 0 || p.poster == poster)).count();
        }

        int worn(int fount, int letter) {
            return wear.getOrDefault(fount + "/" + letter, 0);
        }

        int fount(int height) {
            argument(in(height, 1, 20));
            state(heights.size() < 5);
            heights.add(height);
            return heights.size() - 1;
        }

        int buy(int fount, int letter, int many) {
            index(in(fount, 0, heights.size() - 1) && in(letter, 0, 9));
            argument(in(many, 1, 9));
            state(have(fount, letter) + many <= 9);
            for (int i = 0; i < many; i++) {
                pieces.add(new Piece(fount, letter));
            }
            return have(fount, letter);
        }

        int buyAll(int fount, int many) {
            index(in(fount, 0, heights.size() - 1));
            argument(in(many, 1, 9));
            int before = pieces.size();
            for (int letter = 0; letter < 10; letter++) {
                for (int i = 0; i < many && have(fount, letter) < 9; i++) {
                    pieces.add(new Piece(fount, letter));
                }
            }
            return pieces.size() - before;
        }

        int setOther(int letter, int other) {
            index(in(letter, 0, 9) && in(other, -1, 9));
            argument(letter != other);
            Integer before = others.put(letter, other);
            return before == null ? -1 : before;
        }

        int setTown(int town, int pay, int strict) {
            index(in(town, 0, 3));
            argument(in(pay, 0, 9) && in(strict, 0, 30));
            int before = towns[town][0] * 100 + towns[town][1];
            towns[town] = new int[] {pay, strict};
            return before;
        }

        int poster(int town, int tall) {
            index(in(town, 0, 3));
            argument(in(tall, 1, 20));
            state(bills.size() < 6);
            Bill bill = new Bill();
            bill.town = town;
            bill.tall = tall;
            bills.add(bill);
            return bills.size() - 1;
        }

        int line(int poster, int word) {
            Bill bill = bill(poster);
            argument(in(word, 0, 99999999));
            state(!bill.isSet && bill.rows.size() < 4);
            bill.rows.add(new Row(Integer.toString(word)));
            return bill.rows.size() - 1;
        }

        Way wayOf(String word, int fount, List<Piece> gone) {
            List<Piece> free = new ArrayList<>();
            for (Piece piece : pieces) {
                if (piece.fount == fount && piece.poster < 0 && !gone.contains(piece)) {
                    free.add(piece);
                }
            }
            List<Piece> taken = new ArrayList<>();
            int flaws = 0;
            for (char sign : word.toCharArray()) {
                int letter = sign - '0';
                Piece piece = firstOf(free, letter);
                if (piece == null) {
                    piece = firstOf(free, others.getOrDefault(letter, -1));
                    flaws++;
                }
                if (piece == null) {
                    return null;
                }
                free.remove(piece);
                taken.add(piece);
            }
            return new Way(fount, heights.get(fount), flaws, taken);
        }

        static Piece firstOf(List<Piece> free, int letter) {
            return free.stream().filter(p -> p.letter == letter).findFirst().orElse(null);
        }

        /** The ways of all lines; null if the poster cannot be set now. */
        List<Way> ways(Bill bill) {
            if (bill.isSet || bill.rows.isEmpty()) {
                return null;
            }
            List<Piece> gone = new ArrayList<>();
            List<Way> all = new ArrayList<>();
            for (Row row : bill.rows) {
                List<Way> can = new ArrayList<>();
                for (int fount = 0; fount < heights.size(); fount++) {
                    Way way = heights.get(fount) < bill.tall ? null : wayOf(row.word, fount, gone);
                    if (way != null) {
                        can.add(way);
                    }
                }
                if (can.isEmpty()) {
                    return null;
                }
                can.sort(Comparator.comparingInt(Way::flaws).thenComparing(Way::height, Comparator.reverseOrder())
                    .thenComparing(Way::fount));
                all.add(can.get(0));
                gone.addAll(can.get(0).pieces());
            }
            return all;
        }

        static int flawsOf(List<Way> ways) {
            return ways == null ? -1 : ways.stream().mapToInt(Way::flaws).sum();
        }

        int set(int poster) {
            Bill bill = bill(poster);
            List<Way> ways = ways(bill);
            state(ways != null);
            for (int i = 0; i < ways.size(); i++) {
                Row row = bill.rows.get(i);
                row.fount = ways.get(i).fount();
                row.flaws = ways.get(i).flaws();
                StringBuilder text = new StringBuilder();
                for (Piece piece : ways.get(i).pieces()) {
                    piece.poster = poster;
                    text.append(piece.letter);
                }
                row.blocks = text.toString();
            }
            bill.isSet = true;
            return flawsOf(ways);
        }

        int proof(Bill bill) {
            int sum = 0;
            int flaws = 0;
            for (Row row : bill.rows) {
                if (row.fount < 0) {
                    return 0;
                }
                sum += heights.get(row.fount) * row.word.length();
                flaws += row.flaws;
            }
            return Math.max(0, sum * towns[bill.town][0] - flaws * towns[bill.town][1]);
        }

        int print(int poster, int copies) {
            Bill bill = bill(poster);
            argument(in(copies, 1, 500));
            state(bill.isSet);
            for (Piece piece : pieces) {
                if (piece.poster == poster) {
                    wear.merge(piece.fount + "/" + piece.letter, copies, Integer::sum);
                }
            }
            bill.copies += copies;
            int earned = proof(bill) * copies / 100;
            coins += earned;
            return earned;
        }

        int strike(int poster) {
            Bill bill = bill(poster);
            state(bill.isSet);
            bill.isSet = false;
            for (Row row : bill.rows) {
                row.fount = -1;
                row.flaws = -1;
                row.blocks = "-1";
            }
            for (Piece piece : pieces) {
                if (piece.poster == poster) {
                    piece.poster = -1;
                }
            }
            int before = broken;
            for (int i = pieces.size() - 1; i >= 0; i--) {
                Piece piece = pieces.get(i);
                if (piece.poster < 0 && worn(piece.fount, piece.letter) >= 400) {
                    wear.merge(piece.fount + "/" + piece.letter, -400, Integer::sum);
                    pieces.remove(i);
                    broken++;
                }
            }
            return broken - before;
        }

        int block(int fount, int letter, int what) {
            index(in(fount, 0, heights.size() - 1) && in(letter, 0, 9) && in(what, 0, 2));
            int have = have(fount, letter);
            return new int[] {have, have - out(fount, letter, -1), worn(fount, letter)}[what];
        }

        int told(int poster, int what) {
            Bill bill = bill(poster);
            index(in(what, 0, 7));
            int letters = bill.rows.stream().mapToInt(r -> r.word.length()).sum();
            int flaws = bill.isSet ? bill.rows.stream().mapToInt(r -> r.flaws).sum() : 0;
            return new int[] {bill.town, bill.tall, bill.rows.size(), letters, bill.isSet ? 1 : 0, flaws,
                bill.copies, bill.isSet ? proof(bill) : 0}[what];
        }

        int about(int poster, int line, int what) {
            Bill bill = bill(poster);
            index(in(line, 0, bill.rows.size() - 1) && in(what, 0, 3));
            Row row = bill.rows.get(line);
            return new int[] {row.word.length(), row.fount, row.flaws, Integer.parseInt(row.blocks)}[what];
        }

        int count(int what) {
            index(in(what, 0, 6));
            int set = (int) bills.stream().filter(b -> b.isSet).count();
            int out = (int) pieces.stream().filter(p -> p.poster >= 0).count();
            return new int[] {heights.size(), bills.size(), set, coins, broken, pieces.size(), out}[what];
        }

        int would(int poster, int what) {
            Bill bill = bill(poster);
            index(in(what, 0, 1));
            List<Way> ways = ways(bill);
            if (ways == null || what == 1) {
                return flawsOf(ways);
            }
            int sum = ways.stream().mapToInt(w -> w.height() * w.pieces().size()).sum();
            return Math.max(0, sum * towns[bill.town][0] - flawsOf(ways) * towns[bill.town][1]);
        }

        int next() {
            int best = -1;
            for (int i = bills.size() - 1; i >= 0; i--) {
                if (would(i, 0) >= 0 && (best < 0 || would(i, 0) >= would(best, 0))) {
                    best = i;
                }
            }
            return best;
        }

        int advise(int poster) {
            Bill bill = bill(poster);
            int without = flawsOf(ways(bill));
            int fewest = without < 0 ? Integer.MAX_VALUE : without;
            int best = -1;
            for (int number = 0; number < 10 * heights.size(); number++) {
                if (have(number / 10, number % 10) < 9) {
                    pieces.add(new Piece(number / 10, number % 10));
                    int with = flawsOf(ways(bill));
                    pieces.remove(pieces.size() - 1);
                    if (with >= 0 && with < fewest) {
                        fewest = with;
                        best = number;
                    }
                }
            }
            return best;
        }

        int lasts(int poster) {
            Bill bill = bill(poster);
            state(bill.isSet);
            for (int copies = 0;; copies++) {
                for (int number = 0; number < 10 * heights.size(); number++) {
                    int out = out(number / 10, number % 10, poster);
                    if (out > 0 && worn(number / 10, number % 10) + copies * out >= 400) {
                        return copies;
                    }
                }
            }
        }

        double mean() {
            int flaws = 0;
            int letters = 0;
            for (int i = 0; i < bills.size(); i++) {
                flaws += told(i, 5);
                letters += bills.get(i).isSet ? told(i, 3) : 0;
            }
            return letters == 0 ? 0 : (double) flaws / letters;
        }

        long digest() {
            List<Integer> all = new ArrayList<>();
            for (int what = 0; what < 7; what++) {
                all.add(count(what));
            }
            for (int letter = 0; letter < 10; letter++) {
                all.add(others.getOrDefault(letter, -1));
            }
            for (int fount = 0; fount < heights.size(); fount++) {
                all.add(heights.get(fount));
                for (int i = 0; i < 30; i++) {
                    all.add(block(fount, i / 3, i % 3));
                }
            }
            for (int poster = 0; poster < bills.size(); poster++) {
                for (int what = 0; what < 8; what++) {
                    all.add(told(poster, what));
                }
                for (int i = 0; i < 4 * bills.get(poster).rows.size(); i++) {
                    all.add(about(poster, i / 4, i % 4));
                }
            }
            long d = 1721;
            for (int x : all) {
                d = d * 31 + x;
            }
            return d;
        }
    }

    private interface Call {
        double answer();
    }

    private static String answerOf(Call call) {
        try {
            return Double.toString(call.answer());
        } catch (RuntimeException e) {
            StackTraceElement[] trace = e.getStackTrace();
            boolean isOwn = trace.length == 0 || trace[0].getClassName().split("\\$")[0].equals("PosterTypes")
                || trace[0].getClassName().startsWith("ModelTest");
            return isOwn ? e.getClass().getSimpleName() : "thrown by the machine in " + trace[0];
        }
    }

    private static final String[] NAMES = {"fount", "buy", "buyAll", "setOther", "setTown", "poster", "line", "set",
        "print", "strike", "block", "told", "about", "count", "would", "next", "advise", "lasts", "mean"};
    private static final int[] WEIGHTS = {2, 10, 3, 5, 4, 3, 10, 14, 10, 6, 3, 6, 5, 2, 8, 5, 10, 8, 3};
    private static final int FIRST_THAT_ONLY_ASKS = 10;

    private final Random random;
    private final PosterTypes real = new PosterTypes();
    private final Model model = new Model();
    private final int mostBlocks;
    private final int letters;
    private final int heights;
    private final int others;

    private ModelTest(int seed) {
        random = new Random(seed);
        mostBlocks = 1 + random.nextInt(9);
        letters = 1 + random.nextInt(10);
        heights = 1 + random.nextInt(20);
        others = random.nextInt(4);
    }

    /** Mostly a number from..to, now and then one beside it or far off. */
    private int number(int from, int to) {
        int kind = random.nextInt(60);
        if (kind == 0) {
            return from - 1;
        }
        if (kind == 1) {
            return to + 1;
        }
        if (kind == 2) {
            return random.nextInt();
        }
        if (kind < 6) {
            return random.nextBoolean() ? from : to;
        }
        return to < from ? from : from + random.nextInt(to - from + 1);
    }

    private int word() {
        if (random.nextInt(30) == 0) {
            return number(0, 99999999);
        }
        int word = 0;
        int size = 1 + random.nextInt(1 + random.nextInt(8));
        for (int i = 0; i < size; i++) {
            word = word * 10 + random.nextInt(letters);
        }
        return word;
    }

    private int fountNumber() {
        return number(0, model.heights.size() - 1);
    }

    private int posterNumber() {
        return number(0, model.bills.size() - 1);
    }

    private int letter() {
        return random.nextInt(8) == 0 ? number(0, 9) : random.nextInt(letters);
    }

    private int pickName() {
        int all = 0;
        for (int weight : WEIGHTS) {
            all += weight;
        }
        int pick = random.nextInt(all);
        int name = 0;
        while (pick >= WEIGHTS[name]) {
            pick -= WEIGHTS[name];
            name++;
        }
        return name;
    }

    private int[] argumentsFor(String name) {
        switch (name) {
            case "fount":
                return new int[] {number(1, random.nextInt(4) == 0 ? 20 : heights)};
            case "buy":
                return new int[] {fountNumber(), letter(), number(1, mostBlocks)};
            case "buyAll":
                return new int[] {fountNumber(), number(1, Math.min(mostBlocks, 3))};
            case "setOther":
                return new int[] {letter(), random.nextInt(4) < others ? letter() : number(-1, 9)};
            case "setTown":
                return new int[] {number(0, 3), number(0, 9), number(0, 30)};
            case "poster":
                return new int[] {number(0, 3), number(1, random.nextInt(4) == 0 ? 20 : heights)};
            case "line":
                return new int[] {posterNumber(), word()};
            case "print":
                return new int[] {posterNumber(), random.nextBoolean() ? number(1, 500) : number(1, 60)};
            case "block":
                return new int[] {fountNumber(), letter(), number(0, 2)};
            case "told":
                return new int[] {posterNumber(), number(0, 7)};
            case "about":
                return new int[] {posterNumber(), number(0, 3), number(0, 3)};
            case "count":
                return new int[] {number(0, 6)};
            case "would":
                return new int[] {posterNumber(), number(0, 1)};
            case "next":
            case "mean":
                return new int[0];
            default:
                return new int[] {posterNumber()};
        }
    }

    private double callReal(String name, int[] a) {
        switch (name) {
            case "fount": return real.fount(a[0]);
            case "buy": return real.buy(a[0], a[1], a[2]);
            case "buyAll": return real.buyAll(a[0], a[1]);
            case "setOther": return real.setOther(a[0], a[1]);
            case "setTown": return real.setTown(a[0], a[1], a[2]);
            case "poster": return real.poster(a[0], a[1]);
            case "line": return real.line(a[0], a[1]);
            case "set": return real.set(a[0]);
            case "print": return real.print(a[0], a[1]);
            case "strike": return real.strike(a[0]);
            case "block": return real.block(a[0], a[1], a[2]);
            case "told": return real.told(a[0], a[1]);
            case "about": return real.about(a[0], a[1], a[2]);
            case "count": return real.count(a[0]);
            case "would": return real.would(a[0], a[1]);
            case "next": return real.next();
            case "advise": return real.advise(a[0]);
            case "lasts": return real.lasts(a[0]);
            default: return real.mean();
        }
    }

    private double callModel(String name, int[] a) {
        switch (name) {
            case "fount": return model.fount(a[0]);
            case "buy": return model.buy(a[0], a[1], a[2]);
            case "buyAll": return model.buyAll(a[0], a[1]);
            case "setOther": return model.setOther(a[0], a[1]);
            case "setTown": return model.setTown(a[0], a[1], a[2]);
            case "poster": return model.poster(a[0], a[1]);
            case "line": return model.line(a[0], a[1]);
            case "set": return model.set(a[0]);
            case "print": return model.print(a[0], a[1]);
            case "strike": return model.strike(a[0]);
            case "block": return model.block(a[0], a[1], a[2]);
            case "told": return model.told(a[0], a[1]);
            case "about": return model.about(a[0], a[1], a[2]);
            case "count": return model.count(a[0]);
            case "would": return model.would(a[0], a[1]);
            case "next": return model.next();
            case "advise": return model.advise(a[0]);
            case "lasts": return model.lasts(a[0]);
            default: return model.mean();
        }
    }

    /** Tells whether every call of the run was answered as due. */
    private boolean run(int seed, Map<String, Integer> seen) {
        long before = real.digest();
        for (int call = 0; call < CALLS; call++) {
            int name = pickName();
            int[] arguments = argumentsFor(NAMES[name]);
            String want = answerOf(() -> callModel(NAMES[name], arguments));
            String got = answerOf(() -> callReal(NAMES[name], arguments));
            String told = "run " + seed + ", call " + call + ": " + NAMES[name] + java.util.Arrays.toString(arguments);
            if (!want.equals(got)) {
                System.out.println(told + " answered " + got + ", due is " + want);
                return false;
            }
            boolean keeps = got.endsWith("Exception") || name >= FIRST_THAT_ONLY_ASKS;
            long then = real.digest();
            if (then != (keeps ? before : model.digest())) {
                System.out.println(told + " left another state than is due");
                return false;
            }
            before = then;
            String kind = got.endsWith("Exception") ? got : got.equals("-1.0") ? "-1" : "an answer";
            seen.merge(NAMES[name] + " " + kind, 1, Integer::sum);
        }
        return true;
    }

    public static void main(String[] args) {
        int runs = args.length > 0 ? Integer.parseInt(args[0]) : RUNS;
        Map<String, Integer> seen = new java.util.TreeMap<>();
        int wrong = 0;
        for (int seed = 0; seed < runs && wrong < 10; seed++) {
            wrong += new ModelTest(seed).run(seed, seen) ? 0 : 1;
        }
        if (args.length > 0) {
            System.out.println(seen);
        }
        System.out.println(wrong == 0 ? "all runs are as the model's" : wrong + " runs wrong");
        System.exit(wrong == 0 ? 0 : 1);
    }
}
