/**
 * Two gauges that read nearly the same: one sends its word plainly, the other one only its
 * syndrome; where they meet, the nearest word with that syndrome is taken. The words in capitals
 * in the comments (SUMS, LEADER, FLIPS ..) are those of the document.
 */
public final class CosetGauges {
    public static final int NONE = -1001, OUTSIDE = -1002, STATE = -1003, FULL = -1004;

    private static final int LEAST_LETTER = 32;
    private static final int GREATEST_LETTER = 126;
    private static final int MOST_LETTERS = 56;
    private static final int MOST_ROWS = 5;
    private static final int LEAST_LENGTH = 3;
    private static final int MOST_LENGTH = 10;

    private static final int RIGHT_TRUSTED = 0;
    private static final int RIGHT_DOUBTED = 1;
    private static final int WRONG_DOUBTED = 2;
    private static final int WRONG_TRUSTED = 3;
    private static final int VERDICTS = 4;

    private static final int LAST_CODE = 6;
    private static final int LAST_COUNT = 7;
    private static final int MOST_SENT_BY_RUN = 50;
    private static final int CHANCES = 16;
    private static final int BITS_OF_CHANCES = 4;

    private final Page page;
    private final Reader reader;
    private final Sums current;
    private final Tally tally;
    private final Draws draws;

    public CosetGauges() {
        page = new Page();
        reader = new Reader();
        current = new Sums();
        tally = new Tally();
        draws = new Draws();
    }

    // ---- texts

    public int letter(int code) {
        if (code < LEAST_LETTER || code > GREATEST_LETTER) {
            return OUTSIDE;
        }
        return page.append(code) ? page.size() : FULL;
    }

    public int blank() {
        int had = page.size();
        page.clear();
        return had;
    }

    public int fault() {
        return reader.readAsFarAsItGoes(page);
    }

    public int sums() {
        if (reader.readAsFarAsItGoes(page) < page.size() || !reader.rowIsWhole()) {
            return STATE;
        }
        current.become(reader);
        tally.sumsRead();
        page.clear();
        return current.length();
    }

    // ---- sums

    public int code(int what) {
        if (what < 0 || what > LAST_CODE) {
            return OUTSIDE;
        }
        if (!current.areThere()) {
            return STATE;
        }
        switch (what) {
            case 0: return current.length();
            case 1: return current.rowCount();
            case 2: return current.rank();
            case 3: return current.distanceOrNone();
            case 4: return current.sure();
            case 5: return current.radius();
            default: return current.radius() == current.sure() ? 1 : 0;
        }
    }

    public int row(int row) {
        if (!current.areThere()) {
            return STATE;
        }
        return current.isRow(row) ? current.rowAt(row) : OUTSIDE;
    }

    public int syndrome(int word) {
        if (!current.areThere()) {
            return STATE;
        }
        return current.isWord(word) ? current.syndromeOf(word) : OUTSIDE;
    }

    public int leader(int syndrome) {
        if (!current.areThere()) {
            return STATE;
        }
        return current.isSyndrome(syndrome) ? current.leaderOf(syndrome) : OUTSIDE;
    }

    public int coset(int syndrome, int place) {
        if (!current.areThere()) {
            return STATE;
        }
        return current.isSyndrome(syndrome) ? current.wordOfCoset(syndrome, place) : OUTSIDE;
    }

    public int leaders(int weight) {
        if (!current.areThere()) {
            return STATE;
        }
        return current.isWeight(weight) ? current.leadersOfWeight(weight) : OUTSIDE;
    }

    public int better(int row, int word) {
        if (!current.areThere()) {
            return STATE;
        }
        if (!current.isRow(row) || !current.isWord(word)) {
            return OUTSIDE;
        }
        return current.gainBy(row, word);
    }

    // ---- what is sent

    public int send(int x, int y) {
        if (!current.areThere()) {
            return STATE;
        }
        if (!current.isWord(x) || !current.isWord(y)) {
            return OUTSIDE;
        }
        return sendAndCount(x, y);
    }

    public int plain(int x, int y, int what) {
        if (!current.areThere()) {
            return STATE;
        }
        if (!current.isWord(x) || !current.isWord(y) || what < 0 || what > 2) {
            return OUTSIDE;
        }
        switch (what) {
            case 0: return current.verdictOf(x, y);
            case 1: return current.flipsOf(x, y);
            default: return x ^ current.flipsOf(x, y);
        }
    }

    public int share(int one, int other, int what) {
        if (!current.areThere()) {
            return STATE;
        }
        if (!current.areSharedSets(one, other) || what < 0 || what > 1) {
            return OUTSIDE;
        }
        int known = one | other;
        if (what == 0) {
            return current.isEnough(known) ? 1 : 0;
        }
        return 2 * current.rank() + Integer.bitCount(known);
    }

    public int shared(int one, int other, int x, int y, boolean second) {
        if (!current.areThere()) {
            return STATE;
        }
        if (!current.areSharedSets(one, other) || !current.isWord(x) || !current.isWord(y)) {
            return OUTSIDE;
        }
        int first = current.firstOfShared(one, other, x, y);
        if (first == NONE || !second) {
            return first;
        }
        return first ^ current.flipsOf(x, y);
    }

    public int run(int seed, int n, int k) {
        if (!current.areThere()) {
            return STATE;
        }
        if (seed < 0 || n < 1 || n > MOST_SENT_BY_RUN || k < 0 || k > CHANCES) {
            return OUTSIDE;
        }
        draws.startFrom(seed);
        int wrongAndTrusted = 0;
        for (int sent = 0; sent < n; sent++) {
            int x = draws.next(current.length());
            int y = x ^ drawUnlikePlaces(k);
            if (sendAndCount(x, y) == WRONG_TRUSTED) {
                wrongAndTrusted++;
            }
        }
        return wrongAndTrusted;
    }

    public int seed() {
        return draws.last();
    }

    // ---- what is told of all

    public int count(int what) {
        if (what < 0 || what > LAST_COUNT) {
            return OUTSIDE;
        }
        switch (what) {
            case 0: return page.size();
            case 5: return tally.bitsSent();
            case 6: return tally.bitsSentByBothPlainly();
            case 7: return tally.timesSumsRead();
            default: return tally.sentWith(what - 1);
        }
    }

    public long digest() {
        long h = 1667;
        if (current.areThere()) {
            h = withSums(h);
        }
        h = 31 * h + seed();
        for (int place = 0; place < page.size(); place++) {
            h = 31 * h + page.letterAt(place);
        }
        for (int what = 0; what <= LAST_COUNT; what++) {
            h = 31 * h + count(what);
        }
        return h;
    }

    private long withSums(long start) {
        long h = start;
        for (int what = 0; what <= LAST_CODE; what++) {
            h = 31 * h + code(what);
        }
        for (int row = 0; row < current.rowCount(); row++) {
            h = 31 * h + current.rowAt(row);
        }
        for (int syndrome = 0; syndrome < current.syndromes(); syndrome++) {
            h = 31 * h + current.leaderOf(syndrome);
        }
        for (int weight = 0; weight <= current.length(); weight++) {
            h = 31 * h + current.leadersOfWeight(weight);
        }
        return h;
    }

    private int sendAndCount(int x, int y) {
        int verdict = current.verdictOf(x, y);
        tally.sentPlain(verdict, current.length(), current.rank());
        return verdict;
    }

    private int drawUnlikePlaces(int k) {
        int unlike = 0;
        for (int place = 0; place < current.length(); place++) {
            if (draws.next(BITS_OF_CHANCES) < k) {
                unlike |= 1 << place;
            }
        }
        return unlike;
    }

    /** THE PAGE: the letters that SUMS are read from. */
    private static final class Page {
        private final int[] letters;
        private int size;

        Page() {
            letters = new int[MOST_LETTERS];
            size = 0;
        }

        int size() {
            return size;
        }

        boolean append(int code) {
            if (size < 0 || size >= letters.length) {
                return false;
            }
            letters[size] = code;
            size++;
            return true;
        }

        void clear() {
            size = 0;
        }

        int letterAt(int place) {
            return place >= 0 && place < letters.length ? letters[place] : 0;
        }
    }

    /**
     * Reads SUMS letter by letter and refuses the first letter that no SUMS go on with, so that
     * fault() and sums() can never be of two minds about a text.
     */
    private static final class Reader {
        private final int[] rows;
        private int row;
        private int signs;
        private int length;

        Reader() {
            rows = new int[MOST_ROWS];
            row = 0;
            signs = 0;
            length = 0;
        }

        /** How many letters were taken: all of THE PAGE, or the place of the first refused one. */
        int readAsFarAsItGoes(Page page) {
            start();
            for (int place = 0; place < page.size(); place++) {
                if (!takes(page.letterAt(place))) {
                    return place;
                }
            }
            return page.size();
        }

        private void start() {
            for (int i = 0; i < rows.length; i++) {
                rows[i] = 0;
            }
            row = 0;
            signs = 0;
            length = 0;
        }

        private boolean takes(int letter) {
            switch (letter) {
                case '/': return takesEndOfRow();
                case '0': return takesSign(0);
                case '1': return takesSign(1);
                default: return false;
            }
        }

        private boolean takesEndOfRow() {
            if (!rowIsWhole() || row >= MOST_ROWS - 1) {
                return false;
            }
            length = signs;
            row++;
            signs = 0;
            return true;
        }

        private boolean takesSign(int sign) {
            // Only the first row is free in its length; it binds the rows behind it.
            int most = row == 0 ? MOST_LENGTH : length;
            if (signs >= most || row < 0 || row >= rows.length) {
                return false;
            }
            rows[row] |= sign << signs;
            signs++;
            return true;
        }

        boolean rowIsWhole() {
            return row == 0 ? signs >= LEAST_LENGTH : signs == length;
        }

        int rowsRead() {
            return row + 1;
        }

        int signsOfRow() {
            return signs;
        }

        int rowAt(int place) {
            return place >= 0 && place < rows.length ? rows[place] : 0;
        }
    }

    /** SUMS and the table of their LEADERS; none as long as the length is 0. */
    private static final class Sums {
        private final int[] rows;
        private final int[] leaderBySyndrome;
        private final int[] leadersByWeight;
        private int rowCount;
        private int length;
        private int rank;
        private int distance;
        private int sure;
        private int radius;

        Sums() {
            rows = new int[MOST_ROWS];
            leaderBySyndrome = new int[1 << MOST_ROWS];
            leadersByWeight = new int[MOST_LENGTH + 1];
            rowCount = 0;
            length = 0;
            rank = 0;
            distance = 0;
            sure = 0;
            radius = 0;
        }

        /** Only to be called with a reader that has read whole SUMS. */
        void become(Reader reader) {
            rowCount = reader.rowsRead();
            length = reader.signsOfRow();
            for (int i = 0; i < rows.length; i++) {
                rows[i] = reader.rowAt(i);
            }
            findLeaders();
            countLeaders();
            distance = leastWeightWithoutSyndrome();
            // A word of weight t and another one of its coset, no heavier, differ by a word of
            // syndrome 0 and weight 2t at most; and each such word parts into two like that.
            sure = distance > length ? length : (distance - 1) / 2;
        }

        private void findLeaders() {
            for (int i = 0; i < leaderBySyndrome.length; i++) {
                leaderBySyndrome[i] = NONE;
            }
            int words = words();
            // Words come from the least on, so of like weights the first one stays.
            for (int word = 0; word < words; word++) {
                int syndrome = syndromeOf(word);
                if (isSyndrome(syndrome) && isNearer(word, leaderOf(syndrome))) {
                    leaderBySyndrome[syndrome] = word;
                }
            }
        }

        private static boolean isNearer(int word, int leader) {
            return leader == NONE || Integer.bitCount(word) < Integer.bitCount(leader);
        }

        private void countLeaders() {
            for (int i = 0; i < leadersByWeight.length; i++) {
                leadersByWeight[i] = 0;
            }
            int reached = 0;
            radius = 0;
            for (int i = 0; i < leaderBySyndrome.length; i++) {
                if (leaderBySyndrome[i] != NONE) {
                    int weight = Integer.bitCount(leaderBySyndrome[i]);
                    reached++;
                    radius = Math.max(radius, weight);
                    if (weight < leadersByWeight.length) {
                        leadersByWeight[weight]++;
                    }
                }
            }
            // The syndromes that are reached are a power of 2, so below it all bits are 1.
            rank = Integer.bitCount(reached - 1);
        }

        /** DISTANCE as better() counts it: LENGTH and 1 if there is none. */
        private int leastWeightWithoutSyndrome() {
            int words = words();
            int least = length + 1;
            for (int word = 1; word < words; word++) {
                int weight = Integer.bitCount(word);
                if (weight < least && syndromeOf(word) == 0) {
                    least = weight;
                }
            }
            return least;
        }

        boolean areThere() {
            return length > 0;
        }

        int length() {
            return length;
        }

        int rowCount() {
            return rowCount;
        }

        int words() {
            return 1 << length;
        }

        int syndromes() {
            return 1 << rowCount;
        }

        int rank() {
            return rank;
        }

        int distanceOrNone() {
            return distance > length ? NONE : distance;
        }

        int sure() {
            return sure;
        }

        int radius() {
            return radius;
        }

        boolean isRow(int row) {
            return row >= 0 && row < rowCount && row < rows.length;
        }

        boolean isWord(int word) {
            return word >= 0 && word < words();
        }

        boolean isSyndrome(int syndrome) {
            return syndrome >= 0 && syndrome < syndromes() && syndrome < leaderBySyndrome.length;
        }

        boolean isWeight(int weight) {
            return weight >= 0 && weight <= length && weight < leadersByWeight.length;
        }

        boolean areSharedSets(int one, int other) {
            return isWord(one) && isWord(other) && (one & other) == 0;
        }

        int rowAt(int row) {
            return isRow(row) ? rows[row] : 0;
        }

        int leaderOf(int syndrome) {
            return isSyndrome(syndrome) ? leaderBySyndrome[syndrome] : NONE;
        }

        int leadersOfWeight(int weight) {
            return isWeight(weight) ? leadersByWeight[weight] : 0;
        }

        int syndromeOf(int word) {
            int syndrome = 0;
            for (int i = 0; i < rowCount && i < rows.length; i++) {
                syndrome |= (Integer.bitCount(rows[i] & word) & 1) << i;
            }
            return syndrome;
        }

        int wordOfCoset(int syndrome, int place) {
            int words = words();
            int ahead = 0;
            for (int word = 0; word < words; word++) {
                if (syndromeOf(word) == syndrome) {
                    if (ahead == place) {
                        return word;
                    }
                    ahead++;
                }
            }
            return NONE;
        }

        int gainBy(int row, int word) {
            if (!isRow(row)) {
                return 0;
            }
            int kept = rows[row];
            rows[row] = word;
            int other = leastWeightWithoutSyndrome();
            rows[row] = kept;
            return other - distance;
        }

        int flipsOf(int x, int y) {
            return leaderOf(syndromeOf(x ^ y));
        }

        int verdictOf(int x, int y) {
            int flips = flipsOf(x, y);
            boolean trusted = Integer.bitCount(flips) <= sure;
            if ((x ^ flips) == y) {
                return trusted ? RIGHT_TRUSTED : RIGHT_DOUBTED;
            }
            return trusted ? WRONG_TRUSTED : WRONG_DOUBTED;
        }

        /** Two words alike in syndrome and known bits differ by a word that has 0 in both. */
        boolean isEnough(int known) {
            int words = words();
            for (int word = 1; word < words; word++) {
                if ((word & known) == 0 && syndromeOf(word) == 0) {
                    return false;
                }
            }
            return true;
        }

        int firstOfShared(int one, int other, int x, int y) {
            int known = one | other;
            if (!isEnough(known)) {
                return NONE;
            }
            int bits = (x & one) | ((y ^ flipsOf(x, y)) & other);
            int syndrome = syndromeOf(x);
            int words = words();
            for (int word = 0; word < words; word++) {
                if ((word & known) == bits && syndromeOf(word) == syndrome) {
                    return word;
                }
            }
            return NONE;
        }
    }

    /** What was counted, over all SUMS that were read. */
    private static final class Tally {
        private final int[] sentByVerdict;
        private int bitsSent;
        private int bitsSentByBothPlainly;
        private int timesSumsRead;

        Tally() {
            sentByVerdict = new int[VERDICTS];
            bitsSent = 0;
            bitsSentByBothPlainly = 0;
            timesSumsRead = 0;
        }

        void sumsRead() {
            timesSumsRead++;
        }

        void sentPlain(int verdict, int length, int rank) {
            if (verdict >= 0 && verdict < sentByVerdict.length) {
                sentByVerdict[verdict]++;
            }
            bitsSent += length + rank;
            bitsSentByBothPlainly += 2 * length;
        }

        int sentWith(int verdict) {
            return verdict >= 0 && verdict < sentByVerdict.length ? sentByVerdict[verdict] : 0;
        }

        int bitsSent() {
            return bitsSent;
        }

        int bitsSentByBothPlainly() {
            return bitsSentByBothPlainly;
        }

        int timesSumsRead() {
            return timesSumsRead;
        }
    }

    /** The SEED and its DRAWS; -1 until the first RUN. */
    private static final class Draws {
        private int seed;

        Draws() {
            seed = -1;
        }

        void startFrom(int start) {
            seed = start;
        }

        int last() {
            return seed;
        }

        /** A DRAW of 2 to the power of the bits: its rest is the lowest bits. */
        int next(int bits) {
            seed = (int) ((1103515245L * seed + 12345L) & 0x7fffffffL);
            return (seed >> 16) & ((1 << bits) - 1);
        }
    }
}
