import java.math.BigInteger;
import java.util.ArrayList;
import java.util.LinkedHashMap;
import java.util.List;
import java.util.Map;
import java.util.function.IntSupplier;

/** Each sentence of a promise that names a boundary case: the edge itself, and what lies next to it. */
public final class PromiseEdgesTest {
    private static final int NONE = -1001;
    private static final int OUTSIDE = -1002;
    private static final int STATE = -1003;
    private static final int FULL = -1004;
    private static final int LEAST = Integer.MIN_VALUE;
    private static final int GREATEST = Integer.MAX_VALUE;

    private static final String SHORTEST = "111";
    private static final String LONGEST = "1000000000/0100000000/0010000000/0001000000/0000100000";
    private static final String[] SIZES = {SHORTEST, "110/011", "1010101/0110011/0001111",
        "1000/0100/0010/0001", LONGEST};

    private static final Due due = new Due("PromiseEdgesTest");

    private PromiseEdgesTest() {
    }

    public static void main(String[] args) {
        noSums();
        letterByItsCode();
        letterFull();
        letterOutsideFirst();
        blankOfEmptyAndFull();
        faultOfThePage();
        faultIfThereIsNone();
        sumsNone();
        sumsOthersAreGone();
        sumsWhatWasCountedStays();
        sumsPageIsEmpty();
        codeOutsideFirst();
        codeDistanceNone();
        codePerfect();
        rowOutside();
        syndromeOutside();
        leaderNone();
        leaderOutside();
        cosetNone();
        cosetOutside();
        leadersOutside();
        betterOutside();
        sendOutside();
        plainOutside();
        plainCountsNothing();
        shareOutside();
        sharedOutside();
        sharedNone();
        sharedCountsNothing();
        runSeed();
        runTimes();
        runChance();
        runChanceAtTheEnds();
        seedNone();
        seedBehindTheLast();
        countOutside();
        countLetters();
        countVerdicts();
        countBits();
        countSums();
        digestWithoutSums();
        digestWithSums();
        digestWraps();
        stateAheadOfOutside();
        refusalsOfANewObjectChangeNothing();
        refusalsChangeNothing();
        lastCall();
        due.end();
    }

    private static int length(String text) {
        return (text + "/").indexOf('/');
    }

    private static int rows(String text) {
        return (text.length() + 1) / (length(text) + 1);
    }

    private static int words(String text) {
        return 1 << length(text);
    }

    private static void noSums() {
        due.sentence("1: No SUMS.");
        CosetGauges x = new CosetGauges();
        for (int what = 0; what <= 6; what++) {
            due.is("code(" + what + ")", x.code(what), STATE);
        }
        due.is("row(0)", x.row(0), STATE);
        due.is("leader(0)", x.leader(0), STATE);
        due.is("sums()", x.sums(), STATE);
        due.is("code(0) behind it", x.code(0), STATE);
        Given.write(x, SHORTEST);
        due.is("code(0) with SUMS on THE PAGE alone", x.code(0), STATE);
        due.is("sums()", x.sums(), 3);
        due.is("code(0) with SUMS", x.code(0), 3);
        due.is("code(0) of another new object", new CosetGauges().code(0), STATE);
    }

    private static void letterByItsCode() {
        due.sentence("2: OUTSIDE: code (32 to 126)");
        CosetGauges x = new CosetGauges();
        Edges.range(due, x, "letter(?)", x::letter, 32, 126);
        due.is("two were taken", x.count(0), 2);
        CosetGauges y = new CosetGauges();
        due.is("letter(31)", y.letter(31), OUTSIDE);
        due.is("letter(32)", y.letter(32), 1);
        due.is("letter(33)", y.letter(33), 2);
        due.is("letter(125)", y.letter(125), 3);
        due.is("letter(126)", y.letter(126), 4);
        due.is("letter(127)", y.letter(127), OUTSIDE);
        due.is("letter(128)", y.letter(128), OUTSIDE);
        due.is("letter(48 + 65536)", y.letter(48 + 65536), OUTSIDE);
        for (int code = 0; code < 160; code++) {
            int taken = code < 32 || code > 126 ? OUTSIDE : 1;
            due.is("letter(" + code + ")", new CosetGauges().letter(code), taken);
        }
    }

    private static void letterFull() {
        due.sentence("2: FULL: there are 56");
        CosetGauges x = new CosetGauges();
        for (int many = 1; many <= 56; many++) {
            due.is("letter(65) no. " + many, x.letter(65), many);
        }
        due.is("the 57th", x.letter(65), FULL);
        due.is("the 57th again", x.letter(126), FULL);
        due.is("still 56", x.count(0), 56);
        due.is("blank()", x.blank(), 56);
        due.is("the first again", x.letter(65), 1);
        CosetGauges y = Given.page(LONGEST);
        due.is("55", y.letter(48), 55);
        due.is("56", y.letter(48), 56);
        due.is("FULL with SUMS' signs", y.letter(48), FULL);
        due.is("fault() of all that", y.fault(), 54);
    }

    private static void letterOutsideFirst() {
        due.sentence("2: OUTSIDE ahead of FULL");
        CosetGauges x = Given.page("a".repeat(56));
        int[] outside = {31, 127, 0, -1, LEAST, GREATEST};
        for (int code : outside) {
            due.is("letter(" + code + ")", x.letter(code), OUTSIDE);
        }
        due.is("letter(32)", x.letter(32), FULL);
        due.is("letter(126)", x.letter(126), FULL);
    }

    private static void blankOfEmptyAndFull() {
        due.sentence("3: THE PAGE is empty: how many letters it had");
        for (int many : new int[] {0, 1, 2, 54, 55, 56, 57}) {
            CosetGauges x = Given.page("1".repeat(many));
            int had = Math.min(many, 56);
            due.is("blank() of " + many, x.blank(), had);
            due.is("count(0)", x.count(0), 0);
            due.is("fault()", x.fault(), 0);
            due.is("blank() again", x.blank(), 0);
            due.is("letter(49)", x.letter(49), 1);
            due.is("blank() of one", x.blank(), 1);
        }
        CosetGauges y = Given.sums(SHORTEST);
        due.is("blank() behind sums()", y.blank(), 0);
        due.is("SUMS stay", y.code(0), 3);
    }

    private static void faultIs(String text, int place) {
        CosetGauges x = Given.page(text);
        due.is("fault() of \"" + text + "\"", x.fault(), place);
        due.is("fault() again", x.fault(), place);
        due.is("count(0)", x.count(0), text.length());
    }

    private static void faultOfThePage() {
        due.sentence("4: The place (from 0) of the first letter of THE PAGE with which, and those ahead of it, no SUMS begin");
        faultIs("a", 0);
        faultIs("ab", 0);
        faultIs("1a", 1);
        faultIs("1ab1", 1);
        faultIs("1/", 1);
        faultIs("11/", 2);
        faultIs("101/1a", 5);
        faultIs("101/10a", 6);
        faultIs("101/101a", 7);
        faultIs("101/1011", 7);
        faultIs("1011/101/", 8);
        String most = LONGEST;
        for (int place = 0; place < most.length(); place++) {
            faultIs(most.substring(0, place) + "x" + most.substring(place + 1), place);
        }
        faultIs(most + "x", 54);
        faultIs(most + "11", 54);
        faultIs("x".repeat(56), 0);
    }

    private static void faultIfThereIsNone() {
        due.sentence("4: how many letters it has, if there is none");
        for (int many = 0; many <= LONGEST.length(); many++) {
            faultIs(LONGEST.substring(0, many), many);
        }
        String five = "101/110/011/000/111";
        for (int many = 0; many <= five.length(); many++) {
            faultIs(five.substring(0, many), many);
        }
    }

    private static void sumsNone() {
        due.sentence("5: STATE: it is none");
        String[] none = {"", "1", "11", "111/", "111/1", "111/11", "111/1111", "1111/111", "11111111111", "/111",
            "111 ", " 111", "112", "111/111/111/111/111/", "111/111/111/111/111/111", LONGEST + "0", LONGEST + "/"};
        for (String text : none) {
            CosetGauges x = Given.page(text);
            due.is("sums() of \"" + text + "\"", x.sums(), STATE);
            due.is("no SUMS", x.code(0), STATE);
            due.is("THE PAGE stays", x.count(0), text.length());
            due.is("not counted", x.count(7), 0);
        }
        for (String text : SIZES) {
            CosetGauges x = Given.page(text.substring(0, text.length() - 1));
            due.is("sums() of one letter less of " + text, x.sums(), STATE);
            due.is("the last letter", x.letter(text.charAt(text.length() - 1)), text.length());
            due.is("sums() of " + text, x.sums(), length(text));
        }
    }

    private static void sumsOthersAreGone() {
        due.sentence("5: others are gone");
        for (String first : SIZES) {
            for (String second : SIZES) {
                CosetGauges x = Given.sums(first);
                Given.write(x, second);
                due.is("sums()", x.sums(), length(second));
                CosetGauges fresh = Given.sums(second);
                String name = second + " behind " + first + ": ";
                for (int what = 0; what <= 6; what++) {
                    due.is(name + "code(" + what + ")", x.code(what), fresh.code(what));
                }
                for (int i = 0; i <= 32; i++) {
                    due.is(name + "row(" + i + ")", x.row(i), fresh.row(i));
                    due.is(name + "leader(" + i + ")", x.leader(i), fresh.leader(i));
                    due.is(name + "leaders(" + i + ")", x.leaders(i), fresh.leaders(i));
                    due.is(name + "coset(0, " + i + ")", x.coset(0, i), fresh.coset(0, i));
                }
            }
        }
        CosetGauges x = Given.sums("110/011");
        Given.write(x, "111/11");
        due.is("refused ones", x.sums(), STATE);
        due.is("then SUMS stay", x.row(0), 3);
    }

    private static void sumsWhatWasCountedStays() {
        due.sentence("5: what was counted stays");
        CosetGauges x = Given.sums("111");
        for (int unlike = 0; unlike < 4; unlike++) {
            x.send(0, unlike);
        }
        x.run(3, 2, 0);
        Given.write(x, "1000/0100");
        due.is("sums()", x.sums(), 4);
        int[] counts = {0, 3, 1, 1, 1, 24, 36, 2};
        for (int what = 0; what <= 7; what++) {
            due.is("count(" + what + ")", x.count(what), counts[what]);
        }
        x.send(0, 0);
        due.is("count(1) goes on", x.count(1), 4);
        due.is("count(5) goes on", x.count(5), 30);
        due.is("count(6) goes on", x.count(6), 44);
    }

    private static void sumsPageIsEmpty() {
        due.sentence("5: LENGTH; THE PAGE is empty then");
        for (String text : SIZES) {
            CosetGauges x = Given.page(text);
            due.is("sums() of " + text, x.sums(), length(text));
            due.is("count(0)", x.count(0), 0);
            due.is("fault()", x.fault(), 0);
            due.is("sums() again", x.sums(), STATE);
            due.is("letter(49)", x.letter(49), 1);
            due.is("fault() of one letter", x.fault(), 1);
            due.is("blank()", x.blank(), 1);
        }
    }

    private static void codeOutsideFirst() {
        due.sentence("6: OUTSIDE: what; STATE: no SUMS");
        CosetGauges none = new CosetGauges();
        CosetGauges x = Given.sums("110/011");
        Edges.range(due, x, "code(?)", x::code, 0, 6);
        Edges.range(due, none, "without SUMS: code(?)", none::code, 0, 6);
        int[] codes = {3, 2, 2, 3, 1, 1, 1};
        for (int what = 0; what <= 6; what++) {
            due.is("without SUMS: code(" + what + ")", none.code(what), STATE);
            due.is("code(" + what + ")", x.code(what), codes[what]);
        }
    }

    private static void codeDistanceNone() {
        due.sentence("6: 3 DISTANCE (NONE)");
        due.is("all words have a syndrome of their own", Given.sums("100/010/001").code(3), NONE);
        due.is("of four signs", Given.sums("1000/0100/0010/0001").code(3), NONE);
        due.is("of five signs", Given.sums("10000/01000/00100/00010/00001").code(3), NONE);
        due.is("with a row more", Given.sums("100/010/001/111").code(3), NONE);
        due.is("with a row less", Given.sums("100/010").code(3), 1);
        due.is("as great as LENGTH", Given.sums("110/011").code(3), 3);
    }

    private static void codePerfect() {
        due.sentence("6: whether they are PERFECT: RADIUS is SURE (1, 0)");
        String[] perfect = {"000", "110/011", "100/010/001", "1010101/0110011/0001111",
            "11000/10100/10010/10001", "10000/01000/00100/00010/00001", "0000000000"};
        String[] not = {"100", "111", "110/000", "1100/0110/0011", "110000/101000/100100/100010/100001", LONGEST};
        for (String text : perfect) {
            CosetGauges x = Given.sums(text);
            due.is(text + ": code(6)", x.code(6), 1);
            due.is(text + ": RADIUS", x.code(5), x.code(4));
        }
        for (String text : not) {
            CosetGauges x = Given.sums(text);
            due.is(text + ": code(6)", x.code(6), 0);
            due.holds(text + ": RADIUS is greater", x.code(5) > x.code(4));
        }
    }

    private static void rowOutside() {
        due.sentence("7: A ROW, as a WORD. OUTSIDE: row");
        for (String text : SIZES) {
            CosetGauges x = Given.sums(text);
            Edges.range(due, x, text + ": row(?)", x::row, 0, rows(text) - 1);
        }
        CosetGauges x = Given.sums(LONGEST);
        for (int row = 0; row < 5; row++) {
            due.is("row(" + row + ")", x.row(row), 1 << row);
        }
        CosetGauges y = Given.sums("0000000001/1111111111/0000000000");
        due.is("the last place", y.row(0), 512);
        due.is("the greatest word", y.row(1), 1023);
        due.is("the word 0", y.row(2), 0);
    }

    private static void syndromeOutside() {
        due.sentence("8: SYNDROME of a WORD. OUTSIDE: word");
        for (String text : SIZES) {
            CosetGauges x = Given.sums(text);
            Edges.range(due, x, text + ": syndrome(?)", x::syndrome, 0, words(text) - 1);
            due.is(text + ": syndrome(0)", x.syndrome(0), 0);
        }
        CosetGauges x = Given.sums(LONGEST);
        due.is("the greatest word", x.syndrome(1023), 31);
        due.is("the greatest without it", x.syndrome(1023 - 31), 0);
        due.is("the greatest syndrome's least word", x.syndrome(31), 31);
        due.is("one more", x.syndrome(32), 0);
    }

    private static void leaderNone() {
        due.sentence("9: NONE: no WORD has it");
        CosetGauges x = Given.sums("110/011/101");
        int[] leaders = {0, NONE, NONE, 2, NONE, 1, 4, NONE};
        for (int syndrome = 0; syndrome < 8; syndrome++) {
            due.is("110/011/101: leader(" + syndrome + ")", x.leader(syndrome), leaders[syndrome]);
        }
        due.is("000: leader(0)", Given.sums("000").leader(0), 0);
        due.is("000: leader(1)", Given.sums("000").leader(1), NONE);
        due.is("001: leader(1)", Given.sums("001").leader(1), 4);
    }

    private static void leaderOutside() {
        due.sentence("9: OUTSIDE: syndrome (as many bits as ROWS)");
        for (String text : SIZES) {
            CosetGauges x = Given.sums(text);
            Edges.range(due, x, text + ": leader(?)", x::leader, 0, (1 << rows(text)) - 1);
            due.is(text + ": leader(0)", x.leader(0), 0);
        }
        due.is("the greatest of five rows", Given.sums(LONGEST).leader(31), 31);
        CosetGauges zero = Given.sums("000/000");
        due.is("NONE is not OUTSIDE", zero.leader(3), NONE);
        due.is("beyond the rows", zero.leader(4), OUTSIDE);
    }

    private static void cosetIs(String text, int syndrome, int... words) {
        CosetGauges x = Given.sums(text);
        String call = text + ": coset(" + syndrome + ", ";
        for (int place = 0; place < words.length; place++) {
            due.is(call + place + ")", x.coset(syndrome, place), words[place]);
        }
        int[] beyond = {LEAST, -2, -1, words.length, words.length + 1, GREATEST};
        for (int place : beyond) {
            due.is(call + place + ")", x.coset(syndrome, place), NONE);
        }
    }

    private static void cosetNone() {
        due.sentence("10: NONE: there are not so many (place below 0, too)");
        cosetIs("000", 0, 0, 1, 2, 3, 4, 5, 6, 7);
        cosetIs("000", 1);
        cosetIs("111", 0, 0, 3, 5, 6);
        cosetIs("111", 1, 1, 2, 4, 7);
        cosetIs("110/011", 3, 2, 5);
        cosetIs("110/110", 1);
        cosetIs("110/110", 3, 1, 2, 5, 6);
        cosetIs("100/010/001", 0, 0);
        cosetIs("100/010/001", 7, 7);
        CosetGauges x = Given.sums("0000000000");
        due.is("coset(0, 1022)", x.coset(0, 1022), 1022);
        due.is("coset(0, 1023)", x.coset(0, 1023), 1023);
        due.is("coset(0, 1024)", x.coset(0, 1024), NONE);
        CosetGauges y = Given.sums(LONGEST);
        due.is("coset(31, 0)", y.coset(31, 0), 31);
        due.is("coset(31, 31)", y.coset(31, 31), 1023);
        due.is("coset(31, 32)", y.coset(31, 32), NONE);
    }

    private static void cosetOutside() {
        due.sentence("10: OUTSIDE: syndrome");
        for (String text : SIZES) {
            CosetGauges x = Given.sums(text);
            int greatest = (1 << rows(text)) - 1;
            Edges.range(due, x, text + ": coset(?, 0)", syndrome -> x.coset(syndrome, 0), 0, greatest);
            Edges.range(due, x, text + ": coset(?, -1)", syndrome -> x.coset(syndrome, -1), 0, greatest);
            due.is(text + ": place below 0", x.coset(greatest, -1), NONE);
        }
    }

    private static void leadersOutside() {
        due.sentence("11: OUTSIDE: weight (0 to LENGTH)");
        int[][] many = {{1, 1, 0, 0}, {1, 3, 0, 0}, {1, 7, 0, 0, 0, 0, 0, 0}, {1, 4, 6, 4, 1},
            {1, 5, 10, 10, 5, 1, 0, 0, 0, 0, 0}};
        for (int i = 0; i < SIZES.length; i++) {
            CosetGauges x = Given.sums(SIZES[i]);
            Edges.range(due, x, SIZES[i] + ": leaders(?)", x::leaders, 0, length(SIZES[i]));
            for (int weight = 0; weight <= length(SIZES[i]); weight++) {
                due.is(SIZES[i] + ": leaders(" + weight + ")", x.leaders(weight), many[i][weight]);
            }
        }
    }

    private static void betterOutside() {
        due.sentence("12: OUTSIDE: row, word");
        for (String text : SIZES) {
            CosetGauges x = Given.sums(text);
            int greatest = words(text) - 1;
            Edges.range(due, x, text + ": better(?, 0)", row -> x.better(row, 0), 0, rows(text) - 1);
            Edges.range(due, x, text + ": better(0, ?)", word -> x.better(0, word), 0, greatest);
            Edges.range(due, x, text + ": better(?, greatest)", row -> x.better(row, greatest), 0, rows(text) - 1);
            due.is(text + ": both OUTSIDE", x.better(-1, -1), OUTSIDE);
        }
    }

    private static void sendOutside() {
        due.sentence("13: OUTSIDE: x, y");
        for (String text : SIZES) {
            CosetGauges x = Given.sums(text);
            int greatest = words(text) - 1;
            Edges.range(due, x, text + ": send(?, 0)", word -> x.send(word, 0), 0, greatest);
            Edges.range(due, x, text + ": send(0, ?)", word -> x.send(0, word), 0, greatest);
            int sent = x.count(1) + x.count(2) + x.count(3) + x.count(4);
            due.is(text + ": four were sent", sent, 4);
            due.is(text + ": both greatest", x.send(greatest, greatest), 0);
            due.is(text + ": both OUTSIDE", x.send(greatest + 1, -1), OUTSIDE);
        }
    }

    private static void plainOutside() {
        due.sentence("14: OUTSIDE: x, y, what");
        for (String text : SIZES) {
            CosetGauges x = Given.sums(text);
            int greatest = words(text) - 1;
            Edges.range(due, x, text + ": plain(?, 0, 2)", word -> x.plain(word, 0, 2), 0, greatest);
            Edges.range(due, x, text + ": plain(0, ?, 1)", word -> x.plain(0, word, 1), 0, greatest);
            Edges.range(due, x, text + ": plain(0, 0, ?)", what -> x.plain(0, 0, what), 0, 2);
            due.is(text + ": VERDICT", x.plain(greatest, greatest, 0), 0);
            due.is(text + ": FLIPS", x.plain(greatest, greatest, 1), 0);
            due.is(text + ": what y is taken to be", x.plain(greatest, greatest, 2), greatest);
        }
    }

    private static void plainCountsNothing() {
        due.sentence("14: As send(), but nothing is counted");
        CosetGauges x = Given.sums("111");
        CosetGauges y = Given.sums("111");
        for (int first = 0; first < 8; first++) {
            for (int second = 0; second < 8; second++) {
                due.is("plain(" + first + ", " + second + ", 0)", x.plain(first, second, 0), y.send(first, second));
            }
        }
        due.is("send() counts", y.count(1) + y.count(2) + y.count(3) + y.count(4), 64);
        for (int what = 1; what <= 6; what++) {
            due.is("count(" + what + ")", x.count(what), 0);
        }
    }

    private static void shareOutside() {
        due.sentence("15: OUTSIDE: one, other (bits of places, none in both), what");
        for (String text : SIZES) {
            CosetGauges x = Given.sums(text);
            int greatest = words(text) - 1;
            Edges.range(due, x, text + ": share(?, 0, 0)", set -> x.share(set, 0, 0), 0, greatest);
            Edges.range(due, x, text + ": share(0, ?, 0)", set -> x.share(0, set, 0), 0, greatest);
            Edges.range(due, x, text + ": share(0, 0, ?)", what -> x.share(0, 0, what), 0, 1);
            due.is(text + ": all in both", x.share(greatest, greatest, 1), OUTSIDE);
            due.is(text + ": place 0 in both", x.share(greatest, 1, 1), OUTSIDE);
            due.is(text + ": each in one", x.share(greatest - 1, 1, 1), 2 * x.code(2) + length(text));
            due.is(text + ": a place beyond all, in both", x.share(greatest + 1, greatest + 1, 1), OUTSIDE);
        }
    }

    private static void sharedOutside() {
        due.sentence("16: OUTSIDE: one, other, x, y");
        for (String text : SIZES) {
            CosetGauges x = Given.sums(text);
            int greatest = words(text) - 1;
            Edges.range(due, x, text + ": shared(?, 0, 0, 0, false)", a -> x.shared(a, 0, 0, 0, false), 0, greatest);
            Edges.range(due, x, text + ": shared(0, ?, 0, 0, false)", a -> x.shared(0, a, 0, 0, false), 0, greatest);
            Edges.range(due, x, text + ": shared(0, 0, ?, 0, true)", a -> x.shared(0, 0, a, 0, true), 0, greatest);
            Edges.range(due, x, text + ": shared(0, 0, 0, ?, true)", a -> x.shared(0, 0, 0, a, true), 0, greatest);
            due.is(text + ": place 0 in both", x.shared(greatest, 1, 0, 0, true), OUTSIDE);
            due.is(text + ": each in one", x.shared(greatest - 1, 1, greatest, greatest, true), greatest);
            due.is(text + ": OUTSIDE where it is not ENOUGH, too", x.shared(0, 0, greatest + 1, 0, false), OUTSIDE);
        }
    }

    private static void sharedNone() {
        due.sentence("16: NONE: it is not ENOUGH, or there is none");
        CosetGauges x = Given.sums("110/011");
        due.is("not ENOUGH: first", x.shared(0, 0, 5, 5, false), NONE);
        due.is("not ENOUGH: second", x.shared(0, 0, 5, 5, true), NONE);
        due.is("ENOUGH: first", x.shared(0, 1, 5, 5, false), 5);
        due.is("ENOUGH: second", x.shared(1, 0, 5, 5, true), 5);
        due.is("ENOUGH, but there is none: first", x.shared(6, 1, 5, 6, false), NONE);
        due.is("ENOUGH, but there is none: second", x.shared(6, 1, 5, 6, true), NONE);
        due.is("ENOUGH, and it is 0", x.shared(6, 1, 0, 0, false), 0);
        CosetGauges y = Given.sums("111");
        due.is("not ENOUGH by one place", y.shared(2, 0, 0, 0, false), NONE);
        due.is("ENOUGH by two places", y.shared(2, 4, 0, 0, false), 0);
        CosetGauges z = Given.sums("0000000000");
        due.is("not ENOUGH by nine places", z.shared(511, 0, 1023, 1023, false), NONE);
        due.is("ENOUGH by ten places", z.shared(511, 512, 1023, 1023, false), 1023);
    }

    private static void sharedCountsNothing() {
        due.sentence("16: Nothing is counted.");
        CosetGauges x = Given.sums("110/011");
        long before = x.digest();
        x.shared(0, 1, 5, 6, false);
        due.is("digest() behind the first", x.digest(), before);
        x.shared(0, 1, 5, 6, true);
        due.is("digest() behind the second", x.digest(), before);
        x.shared(0, 0, 5, 6, true);
        due.is("digest() where it is not ENOUGH", x.digest(), before);
        x.shared(2, 1, 0, 3, true);
        due.is("digest() where there is none", x.digest(), before);
        x.share(2, 1, 0);
        due.is("digest() behind share()", x.digest(), before);
    }

    private static void runSeed() {
        due.sentence("17: OUTSIDE: seed (0 and more)");
        CosetGauges x = Given.sums("111");
        Edges.range(due, x, "run(?, 1, 0)", start -> x.run(start, 1, 0), 0, GREATEST);
        due.is("two were sent", x.count(1), 2);
        due.is("run(0, 1, 0)", x.run(0, 1, 0), 0);
        due.is("seed()", x.seed(), 1449466924);
        due.is("run(1, 1, 0)", x.run(1, 1, 0), 0);
        due.is("run(-1, 1, 0)", x.run(-1, 1, 0), OUTSIDE);
    }

    private static void runTimes() {
        due.sentence("17: OUTSIDE: n (1 to 50)");
        CosetGauges x = Given.sums("111");
        Edges.range(due, x, "run(5, ?, 0)", n -> x.run(5, n, 0), 1, 50);
        due.is("1 and 50 were sent", x.count(1), 51);
        x.run(5, 2, 0);
        due.is("and 2", x.count(1), 53);
        x.run(5, 49, 0);
        due.is("and 49", x.count(1), 102);
    }

    private static void runChance() {
        due.sentence("17: OUTSIDE: k (0 to 16)");
        CosetGauges x = Given.sums("111");
        Edges.range(due, x, "run(5, 1, ?)", k -> x.run(5, 1, k), 0, 16);
        int[][] outside = {{-1, 0, -1}, {-1, 1, 0}, {0, 0, 0}, {0, 51, 16}, {0, 50, 17}, {0, 1, -1}};
        long before = x.digest();
        for (int[] c : outside) {
            due.is("run(" + c[0] + ", " + c[1] + ", " + c[2] + ")", x.run(c[0], c[1], c[2]), OUTSIDE);
            due.is("digest()", x.digest(), before);
        }
    }

    private static void runChanceAtTheEnds() {
        due.sentence("17: A RUN: how many were wrong and trusted (k 0: no place is unlike, 16: all are)");
        CosetGauges x = Given.sums("110/110");
        due.is("none unlike", x.run(77, 50, 0), 0);
        due.is("none unlike, all right and trusted", x.count(1), 50);
        // All three places unlike: syndrome 0, so FLIPS are 0, trusted and wrong.
        due.is("all unlike", x.run(77, 50, 16), 50);
        due.is("all unlike, all wrong and trusted", x.count(4), 50);
        due.is("one alone", x.run(77, 1, 16), 1);
        due.is("of this run alone", x.run(77, 2, 16), 2);
        due.is("of all runs", x.count(4), 53);
        CosetGauges y = Given.sums("100/010/001");
        due.is("all unlike and right", y.run(77, 50, 16), 0);
        due.is("all right and trusted", y.count(1), 50);
        CosetGauges z = Given.sums("111");
        due.is("all unlike, wrong and doubted", z.run(77, 50, 16), 0);
        due.is("all wrong and doubted", z.count(3), 50);
    }

    private static void seedNone() {
        due.sentence("18: (-1: there was none)");
        CosetGauges x = new CosetGauges();
        due.is("new", x.seed(), -1);
        x.run(0, 1, 0);
        due.is("a RUN without SUMS", x.seed(), -1);
        Given.write(x, "111");
        x.sums();
        due.is("SUMS", x.seed(), -1);
        x.send(0, 1);
        due.is("a send()", x.seed(), -1);
        int[][] refused = {{-1, 1, 1}, {5, 0, 1}, {5, 51, 1}, {5, 1, -1}, {5, 1, 17}};
        for (int[] c : refused) {
            x.run(c[0], c[1], c[2]);
            due.is("a refused RUN", x.seed(), -1);
        }
        x.run(0, 1, 0);
        due.is("a RUN", x.seed(), 1449466924);
    }

    private static long seedBehind(long start, int draws) {
        long seed = start;
        for (int i = 0; i < draws; i++) {
            seed = (1103515245L * seed + 12345L) % 2147483648L;
        }
        return seed;
    }

    private static void seedBehindTheLast() {
        due.sentence("18: The SEED behind the last RUN");
        CosetGauges x = Given.sums("111");
        x.run(9, 1, 4);
        due.is("of the first", x.seed(), seedBehind(9, 4));
        x.run(8, 2, 4);
        due.is("of the second", x.seed(), seedBehind(8, 8));
        x.run(8, 51, 4);
        due.is("a refused one", x.seed(), seedBehind(8, 8));
        Given.write(x, "1111111111");
        x.sums();
        due.is("other SUMS", x.seed(), seedBehind(8, 8));
        x.run(GREATEST, 50, 16);
        due.is("the greatest one", x.seed(), seedBehind(GREATEST, 550));
        x.run(0, 1, 0);
        due.is("the least one", x.seed(), seedBehind(0, 11));
    }

    private static void countOutside() {
        due.sentence("19: OUTSIDE");
        CosetGauges none = new CosetGauges();
        Edges.range(due, none, "without SUMS: count(?)", none::count, 0, 7);
        CosetGauges x = Given.sums("111");
        Edges.range(due, x, "count(?)", x::count, 0, 7);
        due.is("count(7)", x.count(7), 1);
        due.is("count(8)", x.count(8), OUTSIDE);
        due.is("count(-1)", x.count(-1), OUTSIDE);
        for (int what = 0; what <= 7; what++) {
            due.is("new: count(" + what + ")", none.count(what), 0);
        }
    }

    private static void countLetters() {
        due.sentence("19: 0 letters of THE PAGE");
        CosetGauges x = new CosetGauges();
        for (int many = 0; many <= 58; many++) {
            due.is("behind " + many + " letters", x.count(0), Math.min(many, 56));
            x.letter(33);
        }
        x.blank();
        due.is("behind blank()", x.count(0), 0);
        x.letter(31);
        due.is("behind a refused letter", x.count(0), 0);
    }

    private static void countVerdicts() {
        due.sentence("19: 1 to 4 that were sent PLAIN with VERDICT 0 to 3 (RUNS, too)");
        for (int unlike = 0; unlike < 4; unlike++) {
            CosetGauges x = Given.sums("111");
            due.is("VERDICT", x.send(0, unlike), unlike);
            for (int what = 1; what <= 4; what++) {
                due.is("behind VERDICT " + unlike + ": count(" + what + ")", x.count(what), what == unlike + 1 ? 1 : 0);
            }
        }
        CosetGauges x = Given.sums("111");
        x.run(4, 50, 8);
        due.is("a RUN", x.count(1) + x.count(2) + x.count(3) + x.count(4), 50);
        x.send(0, 3);
        x.run(4, 1, 0);
        due.is("a send() and a RUN more", x.count(1) + x.count(2) + x.count(3) + x.count(4), 52);
    }

    private static void countBits() {
        due.sentence("19: 5 all BITS that were sent by these, 6 all that would have been sent by both plainly (LENGTH each)");
        CosetGauges x = Given.sums("000");
        due.is("none: count(5)", x.count(5), 0);
        due.is("none: count(6)", x.count(6), 0);
        x.send(0, 7);
        due.is("RANK 0: count(5)", x.count(5), 3);
        due.is("RANK 0: count(6)", x.count(6), 6);
        Given.write(x, LONGEST);
        x.sums();
        x.run(1, 50, 3);
        due.is("50 by LENGTH 10 and RANK 5: count(5)", x.count(5), 3 + 750);
        due.is("50 by LENGTH 10: count(6)", x.count(6), 6 + 1000);
        x.shared(1, 2, 3, 4, true);
        x.plain(1, 2, 0);
        due.is("shared() and plain(): count(5)", x.count(5), 753);
        due.is("shared() and plain(): count(6)", x.count(6), 1006);
    }

    private static void countSums() {
        due.sentence("19: 7 how often SUMS were read");
        CosetGauges x = new CosetGauges();
        x.sums();
        due.is("refused", x.count(7), 0);
        for (int often = 1; often <= 3; often++) {
            Given.write(x, "11");
            x.sums();
            due.is("a text too short", x.count(7), often - 1);
            Given.write(x, "1");
            x.sums();
            due.is("read", x.count(7), often);
            x.sums();
            due.is("an empty page", x.count(7), often);
        }
    }

    /** By numbers without an end, so that what is held against it does not wrap by itself. */
    private static long digestOf(List<Integer> numbers) {
        BigInteger h = BigInteger.valueOf(1667);
        for (int number : numbers) {
            h = h.multiply(BigInteger.valueOf(31)).add(BigInteger.valueOf(number));
        }
        return h.longValue();
    }

    private static void add(List<Integer> numbers, int... more) {
        for (int number : more) {
            numbers.add(number);
        }
    }

    private static void digestIs(String what, CosetGauges x, int[] sums, int seed, String letters, int... counts) {
        List<Integer> numbers = new ArrayList<>();
        add(numbers, sums);
        add(numbers, seed);
        for (char letter : letters.toCharArray()) {
            add(numbers, letter);
        }
        add(numbers, counts);
        due.is(what + ": digest()", x.digest(), digestOf(numbers));
        due.is(what + ": digest() again", x.digest(), digestOf(numbers));
    }

    private static void digestWithoutSums() {
        due.sentence("20: if there are SUMS (none)");
        int[] none = {};
        digestIs("new", new CosetGauges(), none, -1, "", 0, 0, 0, 0, 0, 0, 0, 0);
        digestIs("one letter", Given.page("~"), none, -1, "~", 1, 0, 0, 0, 0, 0, 0, 0);
        String full = " ~".repeat(28);
        digestIs("a full page", Given.page(full), none, -1, full, 56, 0, 0, 0, 0, 0, 0, 0);
        CosetGauges x = Given.page(full + "!");
        digestIs("one more", x, none, -1, full, 56, 0, 0, 0, 0, 0, 0, 0);
        x.blank();
        digestIs("blank", x, none, -1, "", 0, 0, 0, 0, 0, 0, 0, 0);
    }

    private static void digestWithSums() {
        due.sentence("20: if there are SUMS code() for 0 to 6, each ROW, leader() for each SYNDROME, leaders() for each WEIGHT");
        int[] least = {3, 1, 0, 1, 0, 0, 1, 0, 0, NONE, 1, 0, 0, 0};
        digestIs("000", Given.sums("000"), least, -1, "", 0, 0, 0, 0, 0, 0, 0, 1);
        int[] none = {3, 3, 3, NONE, 3, 3, 1, 1, 2, 4, 0, 1, 2, 3, 4, 5, 6, 7, 1, 3, 3, 1};
        digestIs("100/010/001", Given.sums("100/010/001"), none, -1, "", 0, 0, 0, 0, 0, 0, 0, 1);
        int[] alike = {3, 2, 1, 1, 0, 1, 0, 3, 3, 0, NONE, NONE, 1, 1, 1, 0, 0};
        CosetGauges x = Given.sums("110/110");
        digestIs("110/110", x, alike, -1, "", 0, 0, 0, 0, 0, 0, 0, 1);
        String full = "110/011/".repeat(7);
        Given.write(x, full);
        digestIs("with a full page", x, alike, -1, full, 56, 0, 0, 0, 0, 0, 0, 1);
        x.blank();
        x.run(0, 1, 0);
        digestIs("with a RUN", x, alike, 1449466924, "", 0, 1, 0, 0, 0, 4, 6, 1);
    }

    private static void digestWraps() {
        due.sentence("20: 31 times h, and it (as longs, wrapping)");
        List<Integer> sums = new ArrayList<>();
        add(sums, 10, 5, 5, 1, 0, 5, 0, 1, 2, 4, 8, 16);
        for (int syndrome = 0; syndrome < 32; syndrome++) {
            add(sums, syndrome);
        }
        add(sums, 1, 5, 10, 10, 5, 1, 0, 0, 0, 0, 0);
        int[] most = sums.stream().mapToInt(Integer::intValue).toArray();
        CosetGauges x = Given.sums(LONGEST);
        digestIs("the longest", x, most, -1, "", 0, 0, 0, 0, 0, 0, 0, 1);
        String full = "~".repeat(56);
        Given.write(x, full);
        digestIs("the longest with a full page", x, most, -1, full, 56, 0, 0, 0, 0, 0, 0, 1);
        boolean below = false;
        boolean above = false;
        CosetGauges y = new CosetGauges();
        for (int letters = 1; letters <= 12; letters++) {
            y.letter(126);
            digestIs(letters + " letters", y, new int[0], -1, "~".repeat(letters), letters, 0, 0, 0, 0, 0, 0, 0);
            below |= y.digest() < 0;
            above |= y.digest() > 0;
        }
        due.holds("some are below 0, and some above", below && above);
    }

    private static void stateAheadOfOutside() {
        due.sentence("7 to 16 and 17: STATE: no SUMS, ahead of OUTSIDE");
        CosetGauges x = new CosetGauges();
        int[] any = {LEAST, -1, 0, 1, 7, 8, 31, 32, 1023, 1024, GREATEST};
        for (int a : any) {
            due.is("row(" + a + ")", x.row(a), STATE);
            due.is("syndrome(" + a + ")", x.syndrome(a), STATE);
            due.is("leader(" + a + ")", x.leader(a), STATE);
            due.is("coset(" + a + ", 0)", x.coset(a, 0), STATE);
            due.is("coset(0, " + a + ")", x.coset(0, a), STATE);
            due.is("leaders(" + a + ")", x.leaders(a), STATE);
            due.is("better(" + a + ", 0)", x.better(a, 0), STATE);
            due.is("better(0, " + a + ")", x.better(0, a), STATE);
            due.is("send(" + a + ", 0)", x.send(a, 0), STATE);
            due.is("send(0, " + a + ")", x.send(0, a), STATE);
            due.is("plain(" + a + ", 0, 0)", x.plain(a, 0, 0), STATE);
            due.is("plain(0, " + a + ", 0)", x.plain(0, a, 0), STATE);
            due.is("plain(0, 0, " + a + ")", x.plain(0, 0, a), STATE);
            due.is("share(" + a + ", " + a + ", 0)", x.share(a, a, 0), STATE);
            due.is("share(0, 0, " + a + ")", x.share(0, 0, a), STATE);
            due.is("shared(" + a + ", " + a + ", 0, 0, true)", x.shared(a, a, 0, 0, true), STATE);
            due.is("shared(0, 0, " + a + ", " + a + ", true)", x.shared(0, 0, a, a, true), STATE);
            due.is("run(" + a + ", 1, 0)", x.run(a, 1, 0), STATE);
            due.is("run(0, " + a + ", 0)", x.run(0, a, 0), STATE);
            due.is("run(0, 1, " + a + ")", x.run(0, 1, a), STATE);
        }
    }

    private static void changesNothing(CosetGauges x, Map<String, IntSupplier> calls, int refusal) {
        long before = x.digest();
        int fault = x.fault();
        for (Map.Entry<String, IntSupplier> call : calls.entrySet()) {
            due.is(call.getKey(), call.getValue().getAsInt(), refusal);
            due.is("digest() behind " + call.getKey(), x.digest(), before);
            due.is("fault() behind " + call.getKey(), x.fault(), fault);
        }
    }

    private static void refusalsOfANewObjectChangeNothing() {
        due.sentence("Refusals change nothing (no SUMS)");
        CosetGauges x = Given.page("110/01");
        Map<String, IntSupplier> calls = new LinkedHashMap<>();
        calls.put("sums()", x::sums);
        calls.put("code(0)", () -> x.code(0));
        calls.put("row(0)", () -> x.row(0));
        calls.put("syndrome(0)", () -> x.syndrome(0));
        calls.put("leader(0)", () -> x.leader(0));
        calls.put("coset(0, 0)", () -> x.coset(0, 0));
        calls.put("leaders(0)", () -> x.leaders(0));
        calls.put("better(0, 0)", () -> x.better(0, 0));
        calls.put("send(0, 0)", () -> x.send(0, 0));
        calls.put("plain(0, 0, 0)", () -> x.plain(0, 0, 0));
        calls.put("share(0, 0, 0)", () -> x.share(0, 0, 0));
        calls.put("shared(0, 0, 0, 0, false)", () -> x.shared(0, 0, 0, 0, false));
        calls.put("run(0, 1, 0)", () -> x.run(0, 1, 0));
        changesNothing(x, calls, STATE);
        x.letter('1');
        due.is("the text goes on", x.sums(), 3);
        due.is("row(1)", x.row(1), 6);
    }

    private static void refusalsChangeNothing() {
        due.sentence("Refusals change nothing (with SUMS, on a full page)");
        CosetGauges x = Given.sums("1100/0110");
        x.send(1, 2);
        x.run(9, 4, 5);
        Given.write(x, "1100/" + "a".repeat(51));
        Map<String, IntSupplier> calls = new LinkedHashMap<>();
        calls.put("letter(31)", () -> x.letter(31));
        calls.put("letter(127)", () -> x.letter(127));
        calls.put("code(7)", () -> x.code(7));
        calls.put("row(2)", () -> x.row(2));
        calls.put("syndrome(16)", () -> x.syndrome(16));
        calls.put("leader(4)", () -> x.leader(4));
        calls.put("coset(4, 0)", () -> x.coset(4, 0));
        calls.put("leaders(5)", () -> x.leaders(5));
        calls.put("better(2, 0)", () -> x.better(2, 0));
        calls.put("better(0, 16)", () -> x.better(0, 16));
        calls.put("send(16, 0)", () -> x.send(16, 0));
        calls.put("send(0, 16)", () -> x.send(0, 16));
        calls.put("plain(0, 0, 3)", () -> x.plain(0, 0, 3));
        calls.put("share(1, 1, 0)", () -> x.share(1, 1, 0));
        calls.put("shared(1, 1, 0, 0, true)", () -> x.shared(1, 1, 0, 0, true));
        calls.put("run(-1, 1, 1)", () -> x.run(-1, 1, 1));
        calls.put("run(1, 51, 1)", () -> x.run(1, 51, 1));
        calls.put("run(1, 1, 17)", () -> x.run(1, 1, 17));
        calls.put("count(8)", () -> x.count(8));
        changesNothing(x, calls, OUTSIDE);
        changesNothing(x, Map.of("sums()", x::sums), STATE);
        changesNothing(x, Map.of("letter(48)", () -> x.letter(48)), FULL);
    }

    private static void lastCall() {
        due.sentence("An object is used for at most 512 calls after it has been made");
        CosetGauges x = Given.sums(LONGEST);
        for (int call = LONGEST.length() + 2; call < 512; call++) {
            x.run(call, 50, 16);
        }
        int runs = 512 - LONGEST.length() - 2;
        due.is("count(6) as the 512th call", x.count(6), runs * 50 * 20);
    }
}
