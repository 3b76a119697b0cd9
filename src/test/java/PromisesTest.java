/** Each promise by calls whose answers were found by hand from the document. */
public final class PromisesTest {
    private static final int NONE = -1001;
    private static final int OUTSIDE = -1002;
    private static final int STATE = -1003;
    private static final int FULL = -1004;
    private static final int LEAST = Integer.MIN_VALUE;
    private static final int GREATEST = Integer.MAX_VALUE;
    private static final String HAMMING = "1010101/0110011/0001111";

    private static final Due due = new Due("PromisesTest");

    private PromisesTest() {
    }

    public static void main(String[] args) {
        constants();
        newObject();
        letter();
        blank();
        fault();
        faultByRows();
        sums();
        sumsRefused();
        code();
        sureOfEvenDistance();
        row();
        syndrome();
        leader();
        coset();
        leaders();
        better();
        send();
        plain();
        share();
        shared();
        sharedOfBoth();
        run();
        runDraws();
        seed();
        count();
        countedBySharesAndRefusals();
        digest();
        stateFirst();
        refusedChangesNothing();
        lengthsAndRows();
        due.end();
    }

    private static int faultOf(String text) {
        return Given.page(text).fault();
    }

    private static void constants() {
        due.is("NONE", CosetGauges.NONE, NONE);
        due.is("OUTSIDE", CosetGauges.OUTSIDE, OUTSIDE);
        due.is("STATE", CosetGauges.STATE, STATE);
        due.is("FULL", CosetGauges.FULL, FULL);
    }

    // promise 1
    private static void newObject() {
        CosetGauges x = new CosetGauges();
        due.is("new: code(0)", x.code(0), STATE);
        due.is("new: seed()", x.seed(), -1);
        for (int what = 0; what <= 7; what++) {
            due.is("new: count(" + what + ")", x.count(what), 0);
        }
        due.is("new: fault()", x.fault(), 0);
        due.is("new: blank()", x.blank(), 0);
        due.is("new: sums()", x.sums(), STATE);
        CosetGauges other = Given.sums("111");
        due.is("another object has sums", other.code(0), 3);
        due.is("this one has none", x.code(0), STATE);
    }

    // promise 2
    private static void letter() {
        CosetGauges x = new CosetGauges();
        int[] outside = {31, 127, 0, -1, -48, 304, LEAST, GREATEST};
        for (int code : outside) {
            due.is("letter(" + code + ")", x.letter(code), OUTSIDE);
        }
        due.is("nothing was written", x.count(0), 0);
        due.is("letter(32)", x.letter(32), 1);
        due.is("letter(126)", x.letter(126), 2);
        for (int i = 3; i <= 56; i++) {
            due.is("letter no. " + i, x.letter(48), i);
        }
        due.is("letter(48) on a full page", x.letter(48), FULL);
        due.is("letter(31) on a full page", x.letter(31), OUTSIDE);
        due.is("letter(127) on a full page", x.letter(127), OUTSIDE);
        due.is("still 56", x.count(0), 56);
        due.is("blank() of 56", x.blank(), 56);
        due.is("room again", x.letter(48), 1);
    }

    // promise 3
    private static void blank() {
        CosetGauges x = Given.sums("110/011");
        Given.write(x, "abc");
        due.is("blank() of abc", x.blank(), 3);
        due.is("blank() again", x.blank(), 0);
        due.is("page is empty", x.count(0), 0);
        due.is("sums stay", x.code(1), 2);
        Given.write(x, "111");
        due.is("no letter was kept", x.sums(), 3);
        due.is("row(0) of 111", x.row(0), 7);
    }

    // promise 4
    private static void fault() {
        due.is("fault of nothing", faultOf(""), 0);
        due.is("fault of 0", faultOf("0"), 1);
        due.is("fault of 01", faultOf("01"), 2);
        due.is("fault of 010", faultOf("010"), 3);
        due.is("fault of /", faultOf("/"), 0);
        due.is("fault of 1/", faultOf("1/"), 1);
        due.is("fault of 10/101", faultOf("10/101"), 2);
        due.is("fault of 101/", faultOf("101/"), 4);
        due.is("fault of 101//", faultOf("101//"), 4);
        due.is("fault of 2", faultOf("2"), 0);
        due.is("fault of a blank ahead", faultOf(" 101"), 0);
        due.is("fault of a blank behind", faultOf("101 "), 3);
        due.is("fault of 101/2", faultOf("101/2"), 4);
        due.is("fault of 10.", faultOf("10."), 2);
        due.is("fault of ten signs", faultOf("0101010101"), 10);
        due.is("fault of ten signs and /", faultOf("0101010101/"), 11);
        due.is("fault of eleven signs", faultOf("01010101010"), 10);
        due.is("only the first one counts", faultOf("x1y"), 0);
        CosetGauges x = new CosetGauges();
        Given.write(x, "101/11/");
        due.is("fault of 101/11/", x.fault(), 6);
        due.is("fault() again", x.fault(), 6);
        due.is("the page stays", x.count(0), 7);
    }

    private static void faultByRows() {
        due.is("fault: row too long", faultOf("1011/10110"), 9);
        due.is("fault: row too short", faultOf("1011/101/1011"), 8);
        due.is("fault: row not yet whole", faultOf("1011/101"), 8);
        due.is("fault: three rows", faultOf("1011/1010/0000"), 14);
        due.is("fault: third row too short", faultOf("101/111/10/"), 10);
        due.is("fault: five rows", faultOf("101/111/101/000/101"), 19);
        due.is("fault: sign behind five rows", faultOf("101/111/101/000/1010"), 19);
        due.is("fault: sixth row", faultOf("101/111/101/000/101/"), 19);
        String ten = "1111111111";
        String five = ten + "/" + ten + "/" + ten + "/" + ten + "/" + ten;
        due.is("fault: the longest text", faultOf(five), 54);
        due.is("fault: one more", faultOf(five + "1"), 54);
        due.is("fault: one more row", faultOf(five + "/1"), 54);
        due.is("fault: second row of ten too long", faultOf(ten + "/" + ten + "1"), 21);
    }

    // promise 5
    private static void sums() {
        CosetGauges x = Given.sums(HAMMING);
        due.is("the page is empty", x.count(0), 0);
        due.is("fault() is 0", x.fault(), 0);
        due.is("sums() of an empty page", x.sums(), STATE);
        due.is("sums stay", x.code(0), 7);
        x.send(0, 1);
        x.run(5, 3, 4);
        int seed = x.seed();
        int bits = x.count(5);
        Given.write(x, "110/011");
        due.is("others come", x.sums(), 3);
        due.is("length", x.code(0), 3);
        due.is("rows", x.code(1), 2);
        due.is("old rows are gone", x.row(2), OUTSIDE);
        due.is("old leaders are gone", x.leader(4), OUTSIDE);
        due.is("old words are gone", x.syndrome(8), OUTSIDE);
        due.is("leaders of weight 1", x.leaders(1), 3);
        due.is("counted bits stay", x.count(5), bits);
        due.is("counted sends stay", x.count(1) + x.count(2) + x.count(3) + x.count(4), 4);
        due.is("seed stays", x.seed(), seed);
        due.is("read twice", x.count(7), 2);
        Given.write(x, "0000000001");
        due.is("longer ones again", x.sums(), 10);
        due.is("row(0)", x.row(0), 512);
        due.is("rank", x.code(2), 1);
        due.is("no third row any more", x.syndrome(1023), 1);
        CosetGauges y = Given.sums("10000/01000/00100/00010/00001");
        due.is("radius 5", y.code(5), 5);
        Given.write(y, "111");
        due.is("short ones", y.sums(), 3);
        due.is("radius 1", y.code(5), 1);
        due.is("distance 2", y.code(3), 2);
        due.is("leaders of weight 2 are gone", y.leaders(2), 0);
    }

    private static void sumsRefused() {
        CosetGauges x = Given.sums("110/011");
        String[] none = {"1", "11", "111/", "111/11", "111/1111", "11/11", "1 1", "111/111/111/111/111/",
            "111/111/111/111/111/111", "11111111111", "111a", "/111"};
        for (String text : none) {
            Given.write(x, text);
            due.is("sums() of " + text, x.sums(), STATE);
            due.is("the page stays", x.count(0), text.length());
            due.is("the sums stay", x.code(1) * 10 + x.code(0), 23);
            due.is("not counted", x.count(7), 1);
            x.blank();
        }
        Given.write(x, "111/1");
        due.is("sums() of 111/1", x.sums(), STATE);
        Given.write(x, "01");
        due.is("sums() of 111/101", x.sums(), 3);
        due.is("row(1)", x.row(1), 5);
    }

    // promise 6
    private static void codeIs(String text, int rows, int rank, int distance, int sure, int radius) {
        CosetGauges x = Given.sums(text);
        due.is(text + ": length", x.code(0), (text + "/").indexOf('/'));
        due.is(text + ": rows", x.code(1), rows);
        due.is(text + ": rank", x.code(2), rank);
        due.is(text + ": distance", x.code(3), distance);
        due.is(text + ": sure", x.code(4), sure);
        due.is(text + ": radius", x.code(5), radius);
        due.is(text + ": perfect", x.code(6), sure == radius ? 1 : 0);
    }

    private static void code() {
        codeIs(HAMMING, 3, 3, 3, 1, 1);
        codeIs("11111", 1, 1, 2, 0, 1);
        codeIs("100/010/001", 3, 3, NONE, 3, 3);
        codeIs("000", 1, 0, 1, 0, 0);
        codeIs("110/110", 2, 1, 1, 0, 1);
        codeIs("110/011/101", 3, 2, 3, 1, 1);
        codeIs("11000/10100/10010/10001", 4, 4, 5, 2, 2);
        codeIs("110000/101000/100100/100010/100001", 5, 5, 6, 2, 3);
        codeIs("10000/01000/00100/00010/00001", 5, 5, NONE, 5, 5);
        codeIs("1000000000/0100000000/0010000000/0001000000/0000100000", 5, 5, 1, 0, 5);
        CosetGauges x = Given.sums("110/011");
        int[] outside = {-1, 7, LEAST, GREATEST};
        for (int what : outside) {
            due.is("code(" + what + ")", x.code(what), OUTSIDE);
            due.is("code(" + what + ") without sums", new CosetGauges().code(what), OUTSIDE);
        }
        for (int what = 0; what <= 6; what++) {
            due.is("code(" + what + ") without sums", new CosetGauges().code(what), STATE);
        }
    }

    private static void sureOfEvenDistance() {
        // Only 0 and 15 have syndrome 0 here: 3 and 12 are of one coset, and of one weight.
        codeIs("1100/0110/0011", 3, 3, 4, 1, 2);
        CosetGauges x = Given.sums("1100/0110/0011");
        due.is("3 and 12 tie", x.leader(x.syndrome(12)), 3);
        due.is("doubted", x.send(0, 3), 1);
        due.is("wrong and doubted", x.send(0, 12), 2);
    }

    // promise 7
    private static void row() {
        CosetGauges x = Given.sums(HAMMING);
        due.is("row(0)", x.row(0), 85);
        due.is("row(1)", x.row(1), 102);
        due.is("row(2)", x.row(2), 120);
        int[] outside = {-1, 3, 4, 5, 32, LEAST, GREATEST};
        for (int row : outside) {
            due.is("row(" + row + ")", x.row(row), OUTSIDE);
        }
        CosetGauges y = Given.sums("100/001/000/111/110");
        int[] rows = {1, 4, 0, 7, 3};
        for (int i = 0; i < rows.length; i++) {
            due.is("row(" + i + ")", y.row(i), rows[i]);
        }
        due.is("row(5)", y.row(5), OUTSIDE);
    }

    // promise 8
    private static void syndrome() {
        CosetGauges x = Given.sums(HAMMING);
        for (int place = 0; place < 7; place++) {
            due.is("syndrome of place " + place, x.syndrome(1 << place), place + 1);
        }
        due.is("syndrome(0)", x.syndrome(0), 0);
        due.is("syndrome(7)", x.syndrome(7), 0);
        due.is("syndrome(127)", x.syndrome(127), 0);
        due.is("syndrome(126)", x.syndrome(126), 1);
        int[] outside = {-1, 128, LEAST, GREATEST};
        for (int word : outside) {
            due.is("syndrome(" + word + ")", x.syndrome(word), OUTSIDE);
        }
        CosetGauges y = Given.sums("1110/1110");
        due.is("rest by 2", y.syndrome(7), 3);
        due.is("even", y.syndrome(3), 0);
        due.is("the last place", y.syndrome(8), 0);
    }

    // promise 9
    private static void leader() {
        CosetGauges x = Given.sums(HAMMING);
        due.is("leader(0)", x.leader(0), 0);
        for (int syndrome = 1; syndrome < 8; syndrome++) {
            due.is("leader(" + syndrome + ")", x.leader(syndrome), 1 << (syndrome - 1));
        }
        int[] outside = {-1, 8, 31, 32, LEAST, GREATEST};
        for (int syndrome : outside) {
            due.is("leader(" + syndrome + ")", x.leader(syndrome), OUTSIDE);
        }
        CosetGauges y = Given.sums("1100/1100/0011");
        int[] leaders = {0, NONE, NONE, 1, 4, NONE, NONE, 5};
        for (int syndrome = 0; syndrome < 8; syndrome++) {
            due.is("1100/1100/0011: leader(" + syndrome + ")", y.leader(syndrome), leaders[syndrome]);
        }
        // 8 is place 3 alone, 3 is places 0 and 1: the greater word is the lighter one.
        CosetGauges z = Given.sums("1001/0101");
        due.is("the lighter word, not the lesser", z.leader(3), 8);
    }

    // promise 10
    private static void coset() {
        CosetGauges x = Given.sums("1100/0011");
        int[][] cosets = {{0, 3, 12, 15}, {1, 2, 13, 14}, {4, 7, 8, 11}, {5, 6, 9, 10}};
        for (int syndrome = 0; syndrome < 4; syndrome++) {
            for (int place = 0; place < 4; place++) {
                due.is("coset(" + syndrome + ", " + place + ")", x.coset(syndrome, place), cosets[syndrome][place]);
            }
            int[] none = {-1, 4, 5, LEAST, GREATEST};
            for (int place : none) {
                due.is("coset(" + syndrome + ", " + place + ")", x.coset(syndrome, place), NONE);
            }
        }
        int[] outside = {-1, 4, LEAST, GREATEST};
        for (int syndrome : outside) {
            due.is("coset(" + syndrome + ", 0)", x.coset(syndrome, 0), OUTSIDE);
            due.is("coset(" + syndrome + ", -1)", x.coset(syndrome, -1), OUTSIDE);
        }
        CosetGauges y = Given.sums("110/110");
        due.is("a coset of no word", y.coset(1, 0), NONE);
        due.is("the least is not the lightest", Given.sums("1001/0101").coset(3, 0), 3);
        CosetGauges z = Given.sums("0000000000");
        due.is("the last of all words", z.coset(0, 1023), 1023);
        due.is("no more words", z.coset(0, 1024), NONE);
    }

    // promise 11
    private static void leaders() {
        CosetGauges x = Given.sums("110000/101000/100100/100010/100001");
        int[] count = {1, 6, 15, 10, 0, 0, 0};
        for (int weight = 0; weight <= 6; weight++) {
            due.is("leaders(" + weight + ")", x.leaders(weight), count[weight]);
        }
        int[] outside = {-1, 7, 10, 11, LEAST, GREATEST};
        for (int weight : outside) {
            due.is("leaders(" + weight + ")", x.leaders(weight), OUTSIDE);
        }
        CosetGauges y = Given.sums("0000000000");
        due.is("leaders(0)", y.leaders(0), 1);
        due.is("leaders(10)", y.leaders(10), 0);
        due.is("leaders(11)", y.leaders(11), OUTSIDE);
        CosetGauges z = Given.sums("10000/01000/00100/00010/00001");
        due.is("leaders(5) of five", z.leaders(5), 1);
        due.is("leaders(2) of five", z.leaders(2), 10);
    }

    // promise 12
    private static void better() {
        CosetGauges x = Given.sums("100/010/001");
        due.is("none: 4 as before", x.better(2, 4), 0);
        due.is("none: 4 as before, 7", x.better(2, 7), 0);
        due.is("none to 1", x.better(2, 0), -3);
        due.is("none to 1 by a like row", x.better(0, 2), -3);
        due.is("none to 1, not 2", x.better(2, 2), -3);
        CosetGauges y = Given.sums("110/010/000");
        due.is("1 to none", y.better(2, 4), 3);
        due.is("1 to none by 7", y.better(2, 7), 3);
        due.is("1 to 1", y.better(2, 3), 0);
        due.is("1 to 2", y.better(1, 6), 2);
        due.is("the sums stay", y.row(2) * 100 + y.code(3), 1);
        CosetGauges z = Given.sums(HAMMING);
        due.is("3 to 2", z.better(0, 1), -1);
        due.is("3 to 1", z.better(2, 0), -2);
        due.is("3 to 3", z.better(2, 120), 0);
        CosetGauges even = Given.sums("1100/0110/0011");
        due.is("4 to 3", even.better(0, 1), -1);
        due.is("4 to 1", even.better(0, 14), -3);
        due.is("4 to 4 by another row", even.better(0, 15), 0);
        int[] rows = {-1, 3, 5, LEAST, GREATEST};
        for (int row : rows) {
            due.is("better(" + row + ", 0)", z.better(row, 0), OUTSIDE);
        }
        int[] words = {-1, 128, LEAST, GREATEST};
        for (int word : words) {
            due.is("better(0, " + word + ")", z.better(0, word), OUTSIDE);
        }
    }

    // promise 13
    private static void send() {
        CosetGauges x = Given.sums("11000/10100/10010/10001");
        due.is("right, no flips", x.send(31, 31), 0);
        due.is("right, one flip", x.send(31, 30), 0);
        due.is("right, two flips", x.send(0, 24), 0);
        due.is("wrong, three flips", x.send(0, 7), 3);
        due.is("wrong, five flips", x.send(0, 31), 3);
        due.is("right ones", x.count(1), 3);
        due.is("wrong ones", x.count(4), 2);
        due.is("bits", x.count(5), 5 * 9);
        due.is("bits by both", x.count(6), 5 * 10);
        CosetGauges y = Given.sums("11111");
        due.is("right and trusted", y.send(3, 3), 0);
        due.is("right and doubted", y.send(3, 2), 1);
        due.is("wrong and doubted", y.send(3, 1), 2);
        due.is("wrong and trusted", y.send(3, 0), 3);
        for (int what = 1; what <= 4; what++) {
            due.is("one each", y.count(what), 1);
        }
        int[] outside = {-1, 32, LEAST, GREATEST};
        for (int word : outside) {
            due.is("send(" + word + ", 0)", y.send(word, 0), OUTSIDE);
            due.is("send(0, " + word + ")", y.send(0, word), OUTSIDE);
        }
        due.is("refused ones are not counted", y.count(5), 24);
    }

    // promise 14
    private static void plain() {
        CosetGauges x = Given.sums(HAMMING);
        due.is("verdict 3", x.plain(37, 38, 0), 3);
        due.is("flips", x.plain(37, 38, 1), 4);
        due.is("taken", x.plain(37, 38, 2), 33);
        due.is("verdict 0", x.plain(37, 101, 0), 0);
        due.is("flips of one place", x.plain(37, 101, 1), 64);
        due.is("taken right", x.plain(37, 101, 2), 101);
        CosetGauges y = Given.sums("11111");
        due.is("verdict 1", y.plain(3, 2, 0), 1);
        due.is("verdict 2", y.plain(3, 1, 0), 2);
        due.is("taken for 1", y.plain(3, 1, 2), 2);
        for (int what = 1; what <= 6; what++) {
            due.is("nothing is counted", x.count(what) + y.count(what), 0);
        }
        int[] outside = {-1, 32, LEAST, GREATEST};
        for (int word : outside) {
            due.is("plain(" + word + ", 0, 0)", y.plain(word, 0, 0), OUTSIDE);
            due.is("plain(0, " + word + ", 0)", y.plain(0, word, 0), OUTSIDE);
        }
        int[] whats = {-1, 3, LEAST, GREATEST};
        for (int what : whats) {
            due.is("plain(0, 0, " + what + ")", y.plain(0, 0, what), OUTSIDE);
        }
    }

    // promise 15
    private static void share() {
        CosetGauges x = Given.sums("11111");
        due.is("enough with four", x.share(3, 12, 0), 1);
        due.is("bits of four", x.share(3, 12, 1), 6);
        due.is("not with three", x.share(3, 4, 0), 0);
        due.is("bits of three", x.share(3, 4, 1), 5);
        due.is("any four", x.share(0, 30, 0), 1);
        due.is("one alone", x.share(27, 0, 0), 1);
        due.is("all", x.share(16, 15, 1), 7);
        CosetGauges y = Given.sums("100/010/001");
        due.is("none is enough", y.share(0, 0, 0), 1);
        due.is("bits of none", y.share(0, 0, 1), 6);
        CosetGauges z = Given.sums("000");
        due.is("all but one", z.share(4, 1, 0), 0);
        due.is("all", z.share(4, 3, 0), 1);
        due.is("only bits", z.share(4, 3, 1), 3);
        due.is("word 1 is not seen", Given.sums("011").share(2, 4, 0), 0);
        due.is("word 4 is not seen", Given.sums("110").share(1, 2, 0), 0);
        // Four places are as many as are needed, but 7 (places 0 to 2) has syndrome 0 and none of these.
        due.is("the right places, not as many", Given.sums(HAMMING).share(8, 112, 0), 0);
        int[][] outside = {{-1, 0, 0}, {32, 0, 0}, {0, -1, 0}, {0, 32, 0}, {1, 1, 0}, {3, 6, 1}, {31, 16, 1},
            {0, 0, -1}, {0, 0, 2}, {LEAST, 0, 0}, {0, GREATEST, 0}, {0, 0, LEAST}, {0, 0, GREATEST}};
        for (int[] call : outside) {
            due.is("share(" + call[0] + ", " + call[1] + ", " + call[2] + ")",
                x.share(call[0], call[1], call[2]), OUTSIDE);
        }
    }

    // promise 16
    private static void shared() {
        CosetGauges x = Given.sums("11111");
        due.is("first", x.shared(3, 12, 21, 20, false), 21);
        due.is("second", x.shared(3, 12, 21, 20, true), 20);
        due.is("first, wrong", x.shared(3, 12, 21, 17, false), 1);
        due.is("second, wrong", x.shared(3, 12, 21, 17, true), 0);
        due.is("not enough", x.shared(3, 4, 21, 20, false), NONE);
        due.is("not enough for the second", x.shared(3, 4, 21, 20, true), NONE);
        for (int what = 1; what <= 6; what++) {
            due.is("nothing is counted", x.count(what), 0);
        }
        int[][] outside = {{-1, 0, 0, 0}, {32, 0, 0, 0}, {0, -1, 0, 0}, {0, 32, 0, 0}, {1, 1, 0, 0},
            {15, 24, 0, 0}, {15, 0, -1, 0}, {15, 0, 32, 0}, {15, 0, 0, -1}, {15, 0, 0, 32},
            {LEAST, 0, 0, 0}, {0, GREATEST, 0, 0}, {15, 0, GREATEST, 0}, {15, 0, 0, LEAST}};
        for (int[] c : outside) {
            String call = "shared(" + c[0] + ", " + c[1] + ", " + c[2] + ", " + c[3] + ")";
            due.is(call, x.shared(c[0], c[1], c[2], c[3], false), OUTSIDE);
            due.is(call + " second", x.shared(c[0], c[1], c[2], c[3], true), OUTSIDE);
        }
    }

    private static void sharedOfBoth() {
        // Only 0 and 7 have syndrome 0 here: one known place is enough.
        CosetGauges x = Given.sums("110/011");
        due.is("from y: first", x.shared(0, 1, 5, 4, false), 5);
        due.is("from y: second", x.shared(0, 1, 5, 4, true), 4);
        due.is("from y, flipped there: first", x.shared(0, 1, 4, 5, false), 4);
        due.is("from y, flipped there: second", x.shared(0, 1, 4, 5, true), 5);
        due.is("word 0: first", x.shared(1, 0, 0, 1, false), 0);
        due.is("word 0: second", x.shared(1, 0, 1, 0, true), 0);
        due.is("from x: first", x.shared(4, 0, 2, 3, false), 2);
        due.is("from x: second", x.shared(4, 0, 2, 3, true), 3);
        // Flips of 5 xor 6 are 4, not 3: y is known to have 0 at place 0, so x is taken to be 2.
        due.is("wrong flips, from y: first", x.shared(0, 1, 5, 6, false), 2);
        due.is("wrong flips, from y: second", x.shared(0, 1, 5, 6, true), 6);
        due.is("wrong flips, from x: first", x.shared(1, 0, 5, 6, false), 5);
        due.is("wrong flips, from x: second", x.shared(1, 0, 5, 6, true), 1);
        // Flips of 0 xor 3 are 4: 1 at place 0 and 0 at place 1, and neither 0 nor 7 has that.
        due.is("no such word: first", x.shared(2, 1, 0, 3, false), NONE);
        due.is("no such word: second", x.shared(2, 1, 0, 3, true), NONE);
        due.is("enough there", x.share(2, 1, 0), 1);
    }

    // promise 17
    private static void run() {
        CosetGauges x = Given.sums("11111");
        due.is("run(7, 20, 2)", x.run(7, 20, 2), 4);
        due.is("seed()", x.seed(), 1977730447);
        due.is("sent", x.count(1) + x.count(2) + x.count(3) + x.count(4), 20);
        due.is("wrong and trusted", x.count(4), 4);
        due.is("bits", x.count(5), 120);
        due.is("bits by both", x.count(6), 200);
        due.is("only of this run", x.run(7, 20, 2), 4);
        due.is("of both runs", x.count(4), 8);
        due.is("never unlike", x.run(7, 50, 0), 0);
        due.is("never unlike, all right", x.count(1) + x.count(2) + x.count(3) + x.count(4), 90);
        int doubted = x.count(3);
        due.is("always unlike", x.run(7, 50, 16), 0);
        due.is("always unlike, all wrong and doubted", x.count(3) - doubted, 50);
        int[][] outside = {{-1, 1, 1}, {LEAST, 1, 1}, {0, 0, 1}, {0, 51, 1}, {0, -1, 1}, {0, 1, -1}, {0, 1, 17},
            {0, LEAST, 0}, {0, GREATEST, 0}, {0, 1, LEAST}, {0, 1, GREATEST}};
        int seed = x.seed();
        for (int[] c : outside) {
            due.is("run(" + c[0] + ", " + c[1] + ", " + c[2] + ")", x.run(c[0], c[1], c[2]), OUTSIDE);
        }
        due.is("seed stays", x.seed(), seed);
        due.is("count stays", x.count(5), 140 * 6);
        due.is("greatest seed", x.run(GREATEST, 1, 0), 0);
        due.is("seed 0", x.run(0, 1, 16), 0);
    }

    private static void runDraws() {
        // By seed 0 the next seeds are 12345, 1406932606, 654583775, 1449466924; by 65536 these are
        // 0, 21468, 9988, 22117: x is 0, and the draws of 16 for the three places are 12, 4 and 5.
        int[] wrong = new int[17];
        for (int k = 0; k <= 16; k++) {
            wrong[k] = Given.sums("000").run(0, 1, k);
        }
        for (int k = 0; k <= 16; k++) {
            due.is("000: run(0, 1, " + k + ")", wrong[k], k > 4 ? 1 : 0);
        }
        CosetGauges x = Given.sums("010");
        due.is("010: run(0, 1, 5)", x.run(0, 1, 5), 0);
        due.is("010: place 1 is unlike", x.count(2), 1);
        due.is("010: run(0, 1, 6)", x.run(0, 1, 6), 0);
        due.is("010: places 1 and 2 are unlike", x.count(3), 1);
        due.is("four draws", x.seed(), 1449466924);
    }

    // promise 18
    private static void seed() {
        CosetGauges x = Given.sums("111");
        due.is("no run", x.seed(), -1);
        x.send(0, 1);
        due.is("no run, but a send", x.seed(), -1);
        x.run(-1, 1, 1);
        due.is("a refused run", x.seed(), -1);
        x.run(0, 1, 0);
        due.is("four draws", x.seed(), 1449466924);
        due.is("seed() again", x.seed(), 1449466924);
        x.run(0, 51, 0);
        due.is("refused", x.seed(), 1449466924);
        long seed = GREATEST;
        for (int i = 0; i < 2 * 4; i++) {
            seed = (1103515245L * seed + 12345L) % 2147483648L;
        }
        x.run(GREATEST, 2, 3);
        due.is("from the greatest seed", x.seed(), seed);
    }

    // promise 19
    private static void count() {
        CosetGauges x = Given.sums("11111");
        Given.write(x, "ab");
        due.is("letters", x.count(0), 2);
        x.send(3, 3);
        x.send(3, 2);
        x.send(3, 2);
        x.send(3, 1);
        x.send(3, 1);
        x.send(3, 1);
        for (int i = 0; i < 4; i++) {
            x.send(3, 0);
        }
        for (int what = 1; what <= 4; what++) {
            due.is("count(" + what + ")", x.count(what), what);
        }
        due.is("count(5)", x.count(5), 60);
        due.is("count(6)", x.count(6), 100);
        due.is("count(7)", x.count(7), 1);
        int[] outside = {-1, 8, LEAST, GREATEST};
        for (int what : outside) {
            due.is("count(" + what + ")", x.count(what), OUTSIDE);
            due.is("count(" + what + ") without sums", new CosetGauges().count(what), OUTSIDE);
        }
        x.blank();
        Given.write(x, "1100/1100");
        x.sums();
        due.is("other sums: letters", x.count(0), 0);
        due.is("other sums: bits stay", x.count(5), 60);
        x.send(0, 0);
        due.is("other sums: length 4 and rank 1, not rows 2", x.count(5), 65);
        due.is("other sums: both", x.count(6), 108);
        due.is("other sums: read", x.count(7), 2);
    }

    private static void countedBySharesAndRefusals() {
        CosetGauges x = Given.sums("11111");
        x.share(3, 12, 1);
        x.shared(3, 12, 1, 2, true);
        x.plain(1, 2, 0);
        x.better(0, 3);
        x.send(-1, 0);
        x.run(1, 0, 0);
        x.letter(10);
        x.sums();
        for (int what = 0; what <= 6; what++) {
            due.is("count(" + what + ") after these", x.count(what), 0);
        }
        due.is("count(7) after these", x.count(7), 1);
    }

    // promise 20
    private static long over(long start, long... numbers) {
        long h = start;
        for (long number : numbers) {
            h = 31 * h + number;
        }
        return h;
    }

    private static void digest() {
        CosetGauges x = new CosetGauges();
        due.is("digest of a new object", x.digest(), over(1667, -1, 0, 0, 0, 0, 0, 0, 0, 0));
        Given.write(x, "a/");
        due.is("digest of a page", x.digest(), over(1667, -1, 97, 47, 2, 0, 0, 0, 0, 0, 0, 0));
        x.blank();
        Given.write(x, "110/110");
        x.sums();
        long sums = over(1667, 3, 2, 1, 1, 0, 1, 0, 3, 3, 0, NONE, NONE, 1, 1, 1, 0, 0);
        due.is("digest of sums", x.digest(), over(sums, -1, 0, 0, 0, 0, 0, 0, 0, 1));
        x.send(0, 0);
        x.send(0, 1);
        x.send(0, 2);
        x.send(0, 4);
        x.letter(126);
        due.is("digest of sends", x.digest(), over(sums, -1, 126, 1, 1, 1, 1, 1, 16, 24, 1));
        x.run(0, 1, 0);
        due.is("digest of a run", x.digest(), over(sums, 1449466924, 126, 1, 2, 1, 1, 1, 20, 30, 1));
        due.is("digest() changes nothing", x.digest(), over(sums, 1449466924, 126, 1, 2, 1, 1, 1, 20, 30, 1));
    }

    // refusals: which one comes first
    private static void stateFirst() {
        CosetGauges x = new CosetGauges();
        int[] any = {0, 1, -1, 7, 2000, LEAST, GREATEST};
        for (int a : any) {
            due.is("row(" + a + ")", x.row(a), STATE);
            due.is("syndrome(" + a + ")", x.syndrome(a), STATE);
            due.is("leader(" + a + ")", x.leader(a), STATE);
            due.is("leaders(" + a + ")", x.leaders(a), STATE);
            for (int b : any) {
                due.is("coset(" + a + ", " + b + ")", x.coset(a, b), STATE);
                due.is("better(" + a + ", " + b + ")", x.better(a, b), STATE);
                due.is("send(" + a + ", " + b + ")", x.send(a, b), STATE);
                due.is("plain(" + a + ", 0, " + b + ")", x.plain(a, 0, b), STATE);
                due.is("share(" + a + ", 0, " + b + ")", x.share(a, 0, b), STATE);
                due.is("shared(" + a + ", 0, " + b + ", 0, true)", x.shared(a, 0, b, 0, true), STATE);
                due.is("run(" + a + ", 1, " + b + ")", x.run(a, 1, b), STATE);
                due.is("run(1, " + a + ", " + b + ")", x.run(1, a, b), STATE);
            }
        }
        due.is("seed() stays", x.seed(), -1);
    }

    private static void refusedChangesNothing() {
        CosetGauges x = Given.sums("1100/0110");
        Given.write(x, "11/");
        x.send(1, 2);
        x.run(9, 4, 5);
        long before = x.digest();
        x.letter(31);
        x.letter(127);
        x.sums();
        x.code(7);
        x.row(2);
        x.syndrome(16);
        x.leader(4);
        x.coset(4, 0);
        x.leaders(5);
        x.better(2, 0);
        x.better(0, 16);
        x.send(16, 0);
        x.send(0, 16);
        x.plain(0, 0, 3);
        x.share(1, 1, 0);
        x.shared(1, 1, 0, 0, true);
        x.run(-1, 1, 1);
        x.run(1, 51, 1);
        x.run(1, 1, 17);
        x.count(8);
        due.is("digest after refusals", x.digest(), before);
        for (int i = 3; i < 56; i++) {
            x.letter(65);
        }
        before = x.digest();
        due.is("FULL", x.letter(66), FULL);
        due.is("digest after FULL", x.digest(), before);
    }

    private static void lengthsAndRows() {
        for (int length = 3; length <= 10; length++) {
            for (int rows = 1; rows <= 5; rows++) {
                StringBuilder text = new StringBuilder();
                for (int row = 0; row < rows; row++) {
                    text.append(row == 0 ? "" : "/").append("1".repeat(length));
                }
                CosetGauges x = Given.sums(text.toString());
                due.is("rows of " + text, x.code(1), rows);
                due.is("the last row of " + text, x.row(rows - 1), (1 << length) - 1);
                due.is("the last syndrome of " + text, x.leader((1 << rows) - 1), 1);
                due.is("one more", x.leader(1 << rows), OUTSIDE);
                due.is("the last word of " + text, x.syndrome((1 << length) - 1), length % 2 * ((1 << rows) - 1));
                due.is("one more word", x.syndrome(1 << length), OUTSIDE);
            }
        }
    }
}
