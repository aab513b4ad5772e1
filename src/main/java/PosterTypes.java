import java.util.ArrayList;
import java.util.Arrays;

/** A shop with wooden type for posters. */
public final class PosterTypes {
    private static final int LETTERS = 10;
    private static final int TOWNS = 4;
    private static final int MOST_FOUNTS = 5;
    private static final int MOST_POSTERS = 6;
    private static final int MOST_LINES = 4;
    private static final int MOST_LETTERS_OF_A_LINE = 8;
    private static final int GREATEST_WORD = 99999999;
    private static final int GREATEST_HEIGHT = 20;
    private static final int MOST_BLOCKS = 9;
    private static final int GREATEST_PAY = 9;
    private static final int GREATEST_STRICT = 30;
    private static final int MOST_COPIES = 500;
    private static final int WORN = 400;
    private static final int PAY_AT_FIRST = 3;
    private static final int STRICT_AT_FIRST = 5;
    private static final int NONE = -1;

    private static final int BLOCK_ANSWERS = 3;
    private static final int TOLD_ANSWERS = 8;
    private static final int ABOUT_ANSWERS = 4;
    private static final int COUNT_ANSWERS = 7;
    private static final long DIGEST_START = 1721;

    private final ArrayList<Fount> founts = new ArrayList<>();
    private final ArrayList<Poster> posters = new ArrayList<>();
    private final int[] others = new int[LETTERS];
    private final int[] pays = new int[TOWNS];
    private final int[] stricts = new int[TOWNS];
    private int coins;
    private int broken;

    public PosterTypes() {
        Arrays.fill(others, NONE);
        Arrays.fill(pays, PAY_AT_FIRST);
        Arrays.fill(stricts, STRICT_AT_FIRST);
    }

    // ---- founts

    public int fount(int height) throws IllegalArgumentException, IllegalStateException {
        if (height < 1 || height > GREATEST_HEIGHT) {
            throw new IllegalArgumentException("a height is 1 to 20");
        }
        if (founts.size() >= MOST_FOUNTS) {
            throw new IllegalStateException("there are 5 founts");
        }
        int number = founts.size();
        founts.add(new Fount(number, height));
        return number;
    }

    public int buy(int fount, int letter, int many)
            throws IndexOutOfBoundsException, IllegalArgumentException, IllegalStateException {
        if (!isFount(fount) || !isLetter(letter)) {
            throw new IndexOutOfBoundsException("no such fount or letter");
        }
        if (many < 1 || many > MOST_BLOCKS) {
            throw new IllegalArgumentException("1 to 9 blocks are bought");
        }
        Fount into = founts.get(fount);
        if (into.blocks[letter] + many > MOST_BLOCKS) {
            throw new IllegalStateException("a fount has at most 9 blocks of a letter");
        }
        into.addBlocks(letter, many);
        return into.blocks[letter];
    }

    public int buyAll(int fount, int many) throws IndexOutOfBoundsException, IllegalArgumentException {
        if (!isFount(fount)) {
            throw new IndexOutOfBoundsException("no such fount");
        }
        if (many < 1 || many > MOST_BLOCKS) {
            throw new IllegalArgumentException("1 to 9 blocks are bought");
        }
        Fount into = founts.get(fount);
        int come = 0;
        for (int letter = 0; letter < LETTERS; letter++) {
            int more = Math.min(many, MOST_BLOCKS - into.blocks[letter]);
            into.addBlocks(letter, more);
            come += more;
        }
        return come;
    }

    public int setOther(int letter, int other) throws IndexOutOfBoundsException, IllegalArgumentException {
        if (!isLetter(letter) || (other != NONE && !isLetter(other))) {
            throw new IndexOutOfBoundsException("no such letter");
        }
        if (letter == other) {
            throw new IllegalArgumentException("a letter is not its own other one");
        }
        int before = others[letter];
        others[letter] = other;
        return before;
    }

    public int setTown(int town, int pay, int strict) throws IndexOutOfBoundsException, IllegalArgumentException {
        if (!isTown(town)) {
            throw new IndexOutOfBoundsException("no such town");
        }
        if (pay < 0 || pay > GREATEST_PAY || strict < 0 || strict > GREATEST_STRICT) {
            throw new IllegalArgumentException("a town pays 0 to 9 and is strict 0 to 30");
        }
        int before = 100 * pays[town] + stricts[town];
        pays[town] = pay;
        stricts[town] = strict;
        return before;
    }

    // ---- posters

    public int poster(int town, int tall)
            throws IndexOutOfBoundsException, IllegalArgumentException, IllegalStateException {
        if (!isTown(town)) {
            throw new IndexOutOfBoundsException("no such town");
        }
        if (tall < 1 || tall > GREATEST_HEIGHT) {
            throw new IllegalArgumentException("a poster wants a height of 1 to 20");
        }
        if (posters.size() >= MOST_POSTERS) {
            throw new IllegalStateException("there are 6 posters");
        }
        int number = posters.size();
        posters.add(new Poster(town, tall));
        return number;
    }

    public int line(int poster, int word)
            throws IndexOutOfBoundsException, IllegalArgumentException, IllegalStateException {
        if (!isPoster(poster)) {
            throw new IndexOutOfBoundsException("no such poster");
        }
        if (word < 0 || word > GREATEST_WORD) {
            throw new IllegalArgumentException("a word is 0 to 99999999");
        }
        Poster on = posters.get(poster);
        if (on.isSet || on.lines.size() >= MOST_LINES) {
            throw new IllegalStateException("the poster is set or has 4 lines");
        }
        int number = on.lines.size();
        on.lines.add(new Line(word));
        return number;
    }

    public int set(int poster) throws IndexOutOfBoundsException, IllegalStateException {
        if (!isPoster(poster)) {
            throw new IndexOutOfBoundsException("no such poster");
        }
        Poster toSet = posters.get(poster);
        int flaws = plan(toSet);
        if (flaws == NONE) {
            throw new IllegalStateException("the poster is set, has no line, or cannot be set");
        }
        for (int i = 0; i < toSet.lines.size(); i++) {
            toSet.lines.get(i).takeOut();
        }
        toSet.isSet = true;
        return flaws;
    }

    public int print(int poster, int copies)
            throws IndexOutOfBoundsException, IllegalArgumentException, IllegalStateException {
        if (!isPoster(poster)) {
            throw new IndexOutOfBoundsException("no such poster");
        }
        if (copies < 1 || copies > MOST_COPIES) {
            throw new IllegalArgumentException("1 to 500 copies are printed");
        }
        Poster printed = posters.get(poster);
        if (!printed.isSet) {
            throw new IllegalStateException("the poster is not set");
        }
        for (int i = 0; i < printed.lines.size(); i++) {
            printed.lines.get(i).wearBy(copies);
        }
        int earned = proofAsLaid(printed) * copies / 100;
        printed.copies += copies;
        coins += earned;
        return earned;
    }

    public int strike(int poster) throws IndexOutOfBoundsException, IllegalStateException {
        if (!isPoster(poster)) {
            throw new IndexOutOfBoundsException("no such poster");
        }
        Poster struck = posters.get(poster);
        if (!struck.isSet) {
            throw new IllegalStateException("the poster is not set");
        }
        for (int i = 0; i < struck.lines.size(); i++) {
            struck.lines.get(i).putBack();
        }
        struck.isSet = false;
        int breaking = 0;
        for (int i = 0; i < founts.size(); i++) {
            breaking += founts.get(i).breakWorn();
        }
        broken += breaking;
        return breaking;
    }

    // ---- what there is

    public int block(int fount, int letter, int what) throws IndexOutOfBoundsException {
        if (!isFount(fount) || !isLetter(letter)) {
            throw new IndexOutOfBoundsException("no such fount or letter");
        }
        Fount asked = founts.get(fount);
        switch (what) {
            case 0:
                return asked.blocks[letter];
            case 1:
                return asked.free[letter];
            case 2:
                return asked.wear[letter];
            default:
                throw new IndexOutOfBoundsException("what is 0 to 2");
        }
    }

    public int told(int poster, int what) throws IndexOutOfBoundsException {
        if (!isPoster(poster)) {
            throw new IndexOutOfBoundsException("no such poster");
        }
        Poster asked = posters.get(poster);
        switch (what) {
            case 0:
                return asked.town;
            case 1:
                return asked.tall;
            case 2:
                return asked.lines.size();
            case 3:
                return asked.letters();
            case 4:
                return asked.isSet ? 1 : 0;
            case 5:
                return asked.isSet ? asked.flawsAsLaid() : 0;
            case 6:
                return asked.copies;
            case 7:
                return asked.isSet ? proofAsLaid(asked) : 0;
            default:
                throw new IndexOutOfBoundsException("what is 0 to 7");
        }
    }

    public int about(int poster, int line, int what) throws IndexOutOfBoundsException {
        if (!isPoster(poster)) {
            throw new IndexOutOfBoundsException("no such poster");
        }
        Poster on = posters.get(poster);
        if (line < 0 || line >= on.lines.size()) {
            throw new IndexOutOfBoundsException("no such line");
        }
        Line asked = on.lines.get(line);
        switch (what) {
            case 0:
                return asked.size;
            case 1:
                return on.isSet ? asked.fountNumber() : NONE;
            case 2:
                return on.isSet ? asked.flaws : NONE;
            case 3:
                return on.isSet ? asked.laidWord : NONE;
            default:
                throw new IndexOutOfBoundsException("what is 0 to 3");
        }
    }

    public int count(int what) throws IndexOutOfBoundsException {
        switch (what) {
            case 0:
                return founts.size();
            case 1:
                return posters.size();
            case 2:
                return postersSet();
            case 3:
                return coins;
            case 4:
                return broken;
            case 5:
                return blocksInAll();
            case 6:
                return blocksInAll() - freeInAll();
            default:
                throw new IndexOutOfBoundsException("what is 0 to 6");
        }
    }

    // ---- what would be

    public int would(int poster, int what) throws IndexOutOfBoundsException {
        if (!isPoster(poster) || what < 0 || what > 1) {
            throw new IndexOutOfBoundsException("no such poster, or what is not 0 or 1");
        }
        Poster asked = posters.get(poster);
        return what == 0 ? proofIfSet(asked) : plan(asked);
    }

    public int next() {
        int best = NONE;
        int greatest = NONE;
        for (int i = 0; i < posters.size(); i++) {
            int proof = proofIfSet(posters.get(i));
            if (proof > greatest) {
                best = i;
                greatest = proof;
            }
        }
        return best;
    }

    public int advise(int poster) throws IndexOutOfBoundsException {
        if (!isPoster(poster)) {
            throw new IndexOutOfBoundsException("no such poster");
        }
        Poster asked = posters.get(poster);
        if (!asked.isReady()) {
            return NONE;
        }
        int best = NONE;
        int fewest = plan(asked);
        for (int i = 0; i < founts.size(); i++) {
            for (int letter = 0; letter < LETTERS; letter++) {
                int flaws = planWithOneMore(asked, founts.get(i), letter);
                if (isFewer(flaws, fewest)) {
                    best = 10 * i + letter;
                    fewest = flaws;
                }
            }
        }
        return best;
    }

    public int lasts(int poster) throws IndexOutOfBoundsException, IllegalStateException {
        if (!isPoster(poster)) {
            throw new IndexOutOfBoundsException("no such poster");
        }
        Poster asked = posters.get(poster);
        if (!asked.isSet) {
            throw new IllegalStateException("the poster is not set");
        }
        int fewest = WORN;
        for (int i = 0; i < founts.size(); i++) {
            for (int letter = 0; letter < LETTERS; letter++) {
                fewest = Math.min(fewest, copiesUntilWorn(asked, founts.get(i), letter));
            }
        }
        return fewest;
    }

    public double mean() {
        int flaws = 0;
        int letters = 0;
        for (int i = 0; i < posters.size(); i++) {
            Poster poster = posters.get(i);
            if (poster.isSet) {
                flaws += poster.flawsAsLaid();
                letters += poster.letters();
            }
        }
        return letters > 0 ? (double) flaws / letters : 0.0;
    }

    public long digest() {
        long d = DIGEST_START;
        for (int what = 0; what < COUNT_ANSWERS; what++) {
            d = mixed(d, count(what));
        }
        for (int letter = 0; letter < LETTERS; letter++) {
            d = mixed(d, others[letter]);
        }
        for (int i = 0; i < founts.size(); i++) {
            d = mixedWithFount(d, i);
        }
        for (int i = 0; i < posters.size(); i++) {
            d = mixedWithPoster(d, i);
        }
        return d;
    }

    private static long mixed(long d, int x) {
        return d * 31 + x;
    }

    private long mixedWithFount(long before, int fount) {
        long d = mixed(before, founts.get(fount).height);
        for (int letter = 0; letter < LETTERS; letter++) {
            for (int what = 0; what < BLOCK_ANSWERS; what++) {
                d = mixed(d, block(fount, letter, what));
            }
        }
        return d;
    }

    private long mixedWithPoster(long before, int poster) {
        long d = before;
        for (int what = 0; what < TOLD_ANSWERS; what++) {
            d = mixed(d, told(poster, what));
        }
        int lines = posters.get(poster).lines.size();
        for (int line = 0; line < lines; line++) {
            for (int what = 0; what < ABOUT_ANSWERS; what++) {
                d = mixed(d, about(poster, line, what));
            }
        }
        return d;
    }

    private boolean isFount(int fount) {
        return fount >= 0 && fount < founts.size();
    }

    private boolean isPoster(int poster) {
        return poster >= 0 && poster < posters.size();
    }

    private static boolean isLetter(int letter) {
        return letter >= 0 && letter < LETTERS;
    }

    private static boolean isTown(int town) {
        return town >= 0 && town < TOWNS;
    }

    private int postersSet() {
        int many = 0;
        for (int i = 0; i < posters.size(); i++) {
            if (posters.get(i).isSet) {
                many++;
            }
        }
        return many;
    }

    private int blocksInAll() {
        int many = 0;
        for (int i = 0; i < founts.size(); i++) {
            for (int letter = 0; letter < LETTERS; letter++) {
                many += founts.get(i).blocks[letter];
            }
        }
        return many;
    }

    private int freeInAll() {
        int many = 0;
        for (int i = 0; i < founts.size(); i++) {
            for (int letter = 0; letter < LETTERS; letter++) {
                many += founts.get(i).free[letter];
            }
        }
        return many;
    }

    private static boolean isFewer(int flaws, int than) {
        return flaws != NONE && (than == NONE || flaws < than);
    }

    private static int copiesUntilWorn(Poster poster, Fount fount, int letter) {
        int blocks = poster.blocksLaid(fount, letter);
        if (blocks <= 0) {
            return WORN;
        }
        int lacking = WORN - fount.wear[letter];
        return lacking <= 0 ? 0 : (lacking + blocks - 1) / blocks;
    }

    private int proofIfSet(Poster poster) {
        return plan(poster) == NONE ? NONE : proofAsLaid(poster);
    }

    private int proofAsLaid(Poster poster) {
        int proof = poster.sizeAsLaid() * pays[poster.town] - poster.flawsAsLaid() * stricts[poster.town];
        return Math.max(proof, 0);
    }

    /** The flaws of a poster if it was set now, with its lines laid so; NONE if it cannot be set now. */
    private int plan(Poster poster) {
        if (!poster.isReady()) {
            return NONE;
        }
        leaveAllFree();
        return layLines(poster);
    }

    private int planWithOneMore(Poster poster, Fount fount, int letter) {
        if (!poster.isReady() || fount.blocks[letter] >= MOST_BLOCKS) {
            return NONE;
        }
        leaveAllFree();
        fount.left[letter]++;
        return layLines(poster);
    }

    private void leaveAllFree() {
        for (int i = 0; i < founts.size(); i++) {
            founts.get(i).leaveFree();
        }
    }

    private int layLines(Poster poster) {
        int flaws = 0;
        for (int i = 0; i < poster.lines.size(); i++) {
            Line line = poster.lines.get(i);
            Fount best = bestFount(line, poster.tall);
            if (best == null || !lay(line, best)) {
                return NONE;
            }
            best.spendOn(line);
            flaws += line.flaws;
        }
        return flaws;
    }

    private Fount bestFount(Line line, int tall) {
        Fount best = null;
        int fewest = NONE;
        for (int i = 0; i < founts.size(); i++) {
            Fount fount = founts.get(i);
            if (fount.height >= tall && lay(line, fount)
                    && (best == null || line.flaws < fewest
                        || (line.flaws == fewest && fount.height > best.height))) {
                best = fount;
                fewest = line.flaws;
            }
        }
        return best;
    }

    /** Lays the line out of the blocks left in the fount, and tells whether they are enough. */
    private boolean lay(Line line, Fount fount) {
        line.startIn(fount);
        for (int i = 0; i < line.size; i++) {
            int letter = line.letters[i];
            int block = blockFor(letter, line, fount);
            if (block == NONE) {
                return false;
            }
            line.put(block, block != letter);
        }
        return true;
    }

    private int blockFor(int letter, Line line, Fount fount) {
        if (line.takes[letter] < fount.left[letter]) {
            return letter;
        }
        int other = others[letter];
        if (other >= 0 && line.takes[other] < fount.left[other]) {
            return other;
        }
        return NONE;
    }

    private static final class Fount {
        final int number;
        final int height;
        final int[] blocks = new int[LETTERS];
        final int[] free = new int[LETTERS];
        final int[] wear = new int[LETTERS];
        /** The free blocks that the lines laid so far leave, while a poster is planned. */
        final int[] left = new int[LETTERS];

        Fount(int number, int height) {
            this.number = number;
            this.height = height;
        }

        void addBlocks(int letter, int many) {
            blocks[letter] += many;
            free[letter] += many;
        }

        void leaveFree() {
            System.arraycopy(free, 0, left, 0, LETTERS);
        }

        void spendOn(Line line) {
            for (int letter = 0; letter < LETTERS; letter++) {
                left[letter] -= line.takes[letter];
            }
        }

        int breakWorn() {
            int all = 0;
            for (int letter = 0; letter < LETTERS; letter++) {
                int breaking = Math.min(wear[letter] / WORN, free[letter]);
                blocks[letter] -= breaking;
                free[letter] -= breaking;
                wear[letter] -= breaking * WORN;
                all += breaking;
            }
            return all;
        }
    }

    /**
     * A line and how it is laid. The laying counts only while the poster is set; at
     * other times it is what the last plan left, so that a plan needs no rows of its own.
     */
    private static final class Line {
        final int[] letters = new int[MOST_LETTERS_OF_A_LINE];
        final int size;
        /** How many blocks of each letter the line takes. */
        final int[] takes = new int[LETTERS];
        Fount fount;
        int flaws;
        int laidWord;

        Line(int word) {
            int digits = 1;
            for (int rest = word / 10; rest > 0 && digits < MOST_LETTERS_OF_A_LINE; rest /= 10) {
                digits++;
            }
            size = digits;
            int rest = word;
            for (int i = digits - 1; i >= 0; i--) {
                letters[i] = rest % 10;
                rest /= 10;
            }
        }

        void startIn(Fount of) {
            Arrays.fill(takes, 0);
            fount = of;
            flaws = 0;
            laidWord = 0;
        }

        void put(int block, boolean isFlaw) {
            takes[block]++;
            laidWord = laidWord * 10 + block;
            flaws += isFlaw ? 1 : 0;
        }

        int fountNumber() {
            return fount == null ? NONE : fount.number;
        }

        int sizeAsLaid() {
            return fount == null ? 0 : fount.height * size;
        }

        void takeOut() {
            if (fount == null) {
                return;
            }
            for (int letter = 0; letter < LETTERS; letter++) {
                fount.free[letter] -= takes[letter];
            }
        }

        void putBack() {
            if (fount == null) {
                return;
            }
            for (int letter = 0; letter < LETTERS; letter++) {
                fount.free[letter] += takes[letter];
            }
        }

        void wearBy(int copies) {
            if (fount == null) {
                return;
            }
            for (int letter = 0; letter < LETTERS; letter++) {
                fount.wear[letter] += takes[letter] * copies;
            }
        }
    }

    private static final class Poster {
        final int town;
        final int tall;
        final ArrayList<Line> lines = new ArrayList<>();
        boolean isSet;
        int copies;

        Poster(int town, int tall) {
            this.town = town;
            this.tall = tall;
        }

        boolean isReady() {
            return !isSet && !lines.isEmpty();
        }

        int letters() {
            int many = 0;
            for (int i = 0; i < lines.size(); i++) {
                many += lines.get(i).size;
            }
            return many;
        }

        int flawsAsLaid() {
            int flaws = 0;
            for (int i = 0; i < lines.size(); i++) {
                flaws += lines.get(i).flaws;
            }
            return flaws;
        }

        int sizeAsLaid() {
            int all = 0;
            for (int i = 0; i < lines.size(); i++) {
                all += lines.get(i).sizeAsLaid();
            }
            return all;
        }

        int blocksLaid(Fount fount, int letter) {
            int many = 0;
            for (int i = 0; i < lines.size(); i++) {
                Line line = lines.get(i);
                if (line.fount == fount) {
                    many += line.takes[letter];
                }
            }
            return many;
        }
    }
}
