import java.math.BigInteger;

/** Each sentence under "Terms" that names a boundary case: the edge itself, and what lies next to it. */
public final class TermEdgesTest {
    private static final int NONE = -1001;
    private static final int OUTSIDE = -1002;
    private static final int STATE = -1003;
    private static final int GREATEST = Integer.MAX_VALUE;

    /** SUMS by their DISTANCE, from 1 to 6, the greatest one that five ROWS can have. */
    private static final String[] BY_DISTANCE = {"", "011", "111", "1010101/0110011/0001111",
        "1100/0110/0011", "11000/10100/10010/10001", "110000/101000/100100/100010/100001"};
    private static final String[] WITHOUT_DISTANCE = {"100/010/001", "1000/0100/0010/0001",
        "10000/01000/00100/00010/00001"};

    private static final Due due = new Due("TermEdgesTest");

    private TermEdgesTest() {
    }

    public static void main(String[] args) {
        oneToFiveRows();
        rowsOfTenSigns();
        between();
        asManySigns();
        signs();
        threeToTen();
        word();
        bitAndPlace();
        restByTwo();
        bitAndRow();
        leaderOfLikeOnes();
        leaderOfLeastWeight();
        rank();
        alikeOrZero();
        distance();
        sure();
        noOtherOneOfItsWeight();
        radius();
        flips();
        trusted();
        trustedAtTheEnds();
        bitsOfPlain();
        noPlaceInBoth();
        enough();
        bitsAtThePlaces();
        noSuchWord();
        bitsOfShared();
        drawOfEachPlace();
        placesInOrder();
        restByTwoToThe31();
        drawsOfARun();
        howMuchGreater();
        lengthAndOne();
        inItsPlace();
        due.end();
    }

    private static String rows(String row, int many) {
        return (row + "/").repeat(many - 1) + row;
    }

    private static void textIs(String text, int fault, int sums) {
        CosetGauges x = Given.page(text);
        due.is("fault() of \"" + text + "\"", x.fault(), fault);
        due.is("sums() of \"" + text + "\"", x.sums(), sums);
    }

    private static void oneToFiveRows() {
        due.sentence("one to five ROWS");
        textIs("", 0, STATE);
        for (int many = 1; many <= 5; many++) {
            CosetGauges x = Given.page(rows("101", many));
            due.is("sums() of " + many + " rows", x.sums(), 3);
            due.is("code(1) of " + many + " rows", x.code(1), many);
        }
        textIs(rows("101", 5) + "/", 19, STATE);
        textIs(rows("101", 6), 19, STATE);
    }

    private static void rowsOfTenSigns() {
        due.sentence("one to five ROWS, each of 10 signs");
        String four = rows("1111111111", 4);
        textIs(four, 43, 10);
        textIs(four + "/", 44, STATE);
        textIs(four + "/111111111", 53, STATE);
        textIs(four + "/1111111111", 54, 10);
        textIs(four + "/1111111111/", 54, STATE);
        textIs(four + "/1111111111/1", 54, STATE);
    }

    private static void between() {
        due.sentence("with \"/\" between");
        textIs("101/011", 7, 3);
        textIs("101011", 6, 6);
        textIs("/101", 0, STATE);
        textIs("101/", 4, STATE);
        textIs("101//011", 4, STATE);
        textIs("101/011/", 8, STATE);
        textIs("101.011", 3, STATE);
        textIs("101 011", 3, STATE);
        textIs("101 /011", 3, STATE);
        textIs("101/ 011", 4, STATE);
    }

    private static void asManySigns() {
        due.sentence("each of as many signs");
        for (int length = 3; length <= 10; length++) {
            String row = "1".repeat(length);
            for (int behind = 1; behind <= 4; behind++) {
                String ahead = rows(row, behind) + "/";
                textIs(ahead + row.substring(1), ahead.length() + length - 1, STATE);
                textIs(ahead + row, ahead.length() + length, length);
                textIs(ahead + row + "1", ahead.length() + length, STATE);
                textIs(ahead + row.substring(1) + "/", ahead.length() + length - 1, STATE);
            }
        }
    }

    private static void signs() {
        due.sentence("signs, 0 and 1");
        textIs("000", 3, 3);
        textIs("111", 3, 3);
        for (char other : new char[] {'.', '/', '2', '3', ' ', '~', 'O', 'l'}) {
            textIs(other + "11", 0, STATE);
            textIs("1" + other + "1", 1, STATE);
            textIs("11" + other, 2, STATE);
        }
        due.is("row(0) of 000", Given.sums("000").row(0), 0);
        due.is("row(0) of 111", Given.sums("111").row(0), 7);
    }

    private static void threeToTen() {
        due.sentence("(3 to 10)");
        textIs("1", 1, STATE);
        textIs("11", 2, STATE);
        textIs("11/", 2, STATE);
        textIs("11/11", 2, STATE);
        for (int length = 3; length <= 10; length++) {
            textIs("1".repeat(length), length, length);
            textIs("1".repeat(length) + "/", length + 1, STATE);
        }
        textIs("1".repeat(11), 10, STATE);
        textIs("1".repeat(11) + "/", 10, STATE);
    }

    private static void word() {
        due.sentence("a number below 2 to the power of LENGTH");
        for (int length = 3; length <= 10; length++) {
            CosetGauges x = Given.sums("1".repeat(length));
            int greatest = (1 << length) - 1;
            Edges.range(due, x, length + " signs: syndrome(?)", x::syndrome, 0, greatest);
            due.is(length + " signs: syndrome(0)", x.syndrome(0), 0);
            due.is(length + " signs: the greatest word", x.syndrome(greatest), length % 2);
            due.is(length + " signs: the one ahead of it", x.syndrome(greatest - 1), (length + 1) % 2);
        }
    }

    private static void bitAndPlace() {
        due.sentence("bit k of it is the sign at place k of a ROW (from the left)");
        for (int length = 3; length <= 10; length++) {
            for (int place = 0; place < length; place++) {
                StringBuilder row = new StringBuilder("0".repeat(length));
                row.setCharAt(place, '1');
                CosetGauges x = Given.sums(row.toString());
                due.is("row(0) of " + row, x.row(0), 1 << place);
                for (int other = 0; other < length; other++) {
                    due.is(row + ": syndrome of place " + other, x.syndrome(1 << other), other == place ? 1 : 0);
                }
            }
        }
    }

    private static void restByTwo() {
        due.sentence("how many places have 1 both in ROW i and in the WORD, its rest by 2");
        CosetGauges all = Given.sums("1111111111");
        CosetGauges none = Given.sums("0000000000");
        CosetGauges half = Given.sums("1111100000");
        for (int places = 0; places <= 10; places++) {
            int word = (1 << places) - 1;
            due.is("1111111111: syndrome(" + word + ")", all.syndrome(word), places % 2);
            due.is("0000000000: syndrome(" + word + ")", none.syndrome(word), 0);
            due.is("1111100000: syndrome(" + word + ")", half.syndrome(word), Math.min(places, 5) % 2);
        }
    }

    private static void bitAndRow() {
        due.sentence("bit i of it is .. in ROW i (from 0)");
        for (int many = 1; many <= 5; many++) {
            for (int row = 0; row < many; row++) {
                String text = rows("000", many);
                text = text.substring(0, 4 * row) + "100" + text.substring(4 * row + 3);
                CosetGauges x = Given.sums(text);
                due.is(text + ": syndrome(1)", x.syndrome(1), 1 << row);
                due.is(text + ": syndrome(2)", x.syndrome(2), 0);
                due.is(text + ": row(" + row + ")", x.row(row), 1);
            }
        }
        due.is("in all five", Given.sums(rows("111", 5)).syndrome(7), 31);
    }

    private static void leaderOfLikeOnes() {
        due.sentence("of like ones the least");
        due.is("110: 1 and 2", Given.sums("110").leader(1), 1);
        due.is("011: 2 and 4", Given.sums("011").leader(1), 2);
        due.is("1111111111: all ten", Given.sums("1111111111").leader(1), 1);
        due.is("0000000011: 256 and 512", Given.sums("0000000011").leader(1), 256);
        CosetGauges x = Given.sums("1100/0110/0011");
        due.is("1100/0110/0011: 5 and 10", x.leader(7), 5);
        due.is("1100/0110/0011: 3 and 12", x.leader(2), 3);
        due.is("1100/0110/0011: 6 and 9", x.leader(5), 6);
    }

    private static void leaderOfLeastWeight() {
        due.sentence("LEADER of it: that of least WEIGHT");
        CosetGauges x = Given.sums("1001/0101");
        due.is("1001/0101: 3 is less than 8, and heavier", x.leader(3), 8);
        due.is("1001/0101: 3 is there", x.coset(3, 0), 3);
        due.is("0 is of no weight", x.leader(0), 0);
        CosetGauges y = Given.sums("10000/01000/00100/00010/00001");
        due.is("alone in its coset, of weight 5", y.leader(31), 31);
        due.is("alone in its coset, of weight 4", y.leader(30), 30);
        CosetGauges z = Given.sums("1000000001/0100000001/0010000001/0001000001/0000100001");
        due.is("512 is lighter than 31", z.leader(31), 512);
        due.is("528 is lighter than 15", z.leader(15), 528);
        due.is("7 is as heavy as 536", z.leader(7), 7);
    }

    private static void rank() {
        due.sentence("2 to the power of RANK is how many SYNDROMES some WORD has");
        due.is("one row, 0", Given.sums("000").code(2), 0);
        due.is("one row", Given.sums("001").code(2), 1);
        due.is("the second of two alike", Given.sums("101/101").code(2), 1);
        due.is("two rows", Given.sums("101/100").code(2), 2);
        due.is("the third is the sum of two", Given.sums("1100/0110/1010").code(2), 2);
        due.is("three rows", Given.sums("1100/0110/1011").code(2), 3);
        due.is("five rows of three signs", Given.sums("100/010/001/111/110").code(2), 3);
        due.is("four of five rows", Given.sums("1000/0100/0010/0001/1111").code(2), 4);
        due.is("five rows", Given.sums("10000/01000/00100/00010/11111").code(2), 5);
        due.is("five rows, 0", Given.sums(rows("0000000000", 5)).code(2), 0);
    }

    private static void alikeOrZero() {
        due.sentence("(ROWS may be alike, or 0.)");
        CosetGauges zero = Given.sums(rows("000", 5));
        due.is("five times 0: leader(0)", zero.leader(0), 0);
        for (int syndrome = 1; syndrome < 32; syndrome++) {
            due.is("five times 0: leader(" + syndrome + ")", zero.leader(syndrome), NONE);
        }
        CosetGauges alike = Given.sums(rows("111", 5));
        for (int syndrome = 0; syndrome < 32; syndrome++) {
            int leader = syndrome == 0 ? 0 : syndrome == 31 ? 1 : NONE;
            due.is("five times 111: leader(" + syndrome + ")", alike.leader(syndrome), leader);
        }
        CosetGauges first = Given.sums("000/110");
        int[] leaders = {0, NONE, 1, NONE};
        CosetGauges second = Given.sums("110/000");
        int[] others = {0, 1, NONE, NONE};
        for (int syndrome = 0; syndrome < 4; syndrome++) {
            due.is("000/110: leader(" + syndrome + ")", first.leader(syndrome), leaders[syndrome]);
            due.is("110/000: leader(" + syndrome + ")", second.leader(syndrome), others[syndrome]);
        }
    }

    private static void distance() {
        due.sentence("DISTANCE: the least WEIGHT of a WORD above 0 with SYNDROME 0; none");
        for (int distance = 1; distance < BY_DISTANCE.length; distance++) {
            due.is(BY_DISTANCE[distance], Given.sums(BY_DISTANCE[distance]).code(3), distance);
        }
        for (String text : WITHOUT_DISTANCE) {
            due.is(text, Given.sums(text).code(3), NONE);
        }
        due.is("only word 1 has syndrome 0", Given.sums("000/010/001").code(3), 1);
        due.is("only the greatest word but 0 has syndrome 0", Given.sums("110/011").code(3), 3);
        due.is("only the word 4 has syndrome 0", Given.sums("100/010").code(3), 1);
        due.is("the lighter of 7 and 24", Given.sums("11000/01100/00011").code(3), 2);
        due.is("ten signs", Given.sums("1111111111").code(3), 2);
    }

    private static void sure() {
        due.sentence("SURE: the greatest t (LENGTH at most)");
        int[] sure = {0, 0, 0, 1, 1, 2, 2};
        for (int distance = 1; distance < BY_DISTANCE.length; distance++) {
            due.is(BY_DISTANCE[distance], Given.sums(BY_DISTANCE[distance]).code(4), sure[distance]);
        }
        for (String text : WITHOUT_DISTANCE) {
            due.is(text, Given.sums(text).code(4), text.indexOf('/'));
        }
    }

    /** SURE once more by what its sentence tells of the words, from the answers of syndrome(). */
    private static void noOtherOneOfItsWeight() {
        due.sentence("each WORD of WEIGHT t or less is the LEADER of its COSET and no other one there has its WEIGHT or less");
        for (int distance = 1; distance < BY_DISTANCE.length; distance++) {
            int sure = Given.sums(BY_DISTANCE[distance]).code(4);
            due.holds(BY_DISTANCE[distance] + ": " + sure, isSure(BY_DISTANCE[distance], sure));
            due.holds(BY_DISTANCE[distance] + ": not " + (sure + 1), !isSure(BY_DISTANCE[distance], sure + 1));
        }
    }

    private static boolean isSure(String text, int t) {
        CosetGauges x = Given.sums(text);
        int[] syndromes = new int[1 << (text + "/").indexOf('/')];
        for (int word = 0; word < syndromes.length; word++) {
            syndromes[word] = x.syndrome(word);
        }
        for (int word = 0; word < syndromes.length; word++) {
            for (int other = 0; other < syndromes.length; other++) {
                if (Integer.bitCount(word) <= t && other != word && syndromes[other] == syndromes[word]
                    && Integer.bitCount(other) <= Integer.bitCount(word)) {
                    return false;
                }
            }
        }
        return true;
    }

    private static void radius() {
        due.sentence("RADIUS: the greatest WEIGHT of a LEADER");
        due.is("only leader 0", Given.sums("000").code(5), 0);
        due.is("weight 1", Given.sums("111").code(5), 1);
        due.is("weight 1, of length 7", Given.sums(BY_DISTANCE[3]).code(5), 1);
        due.is("weight 2", Given.sums("1100/0110/0011").code(5), 2);
        due.is("weight 3", Given.sums(BY_DISTANCE[6]).code(5), 3);
        due.is("weight 3, all words", Given.sums("100/010/001").code(5), 3);
        due.is("weight 5", Given.sums("10000/01000/00100/00010/00001").code(5), 5);
        due.is("weight 5, ten signs",
            Given.sums("0000010000/0000001000/0000000100/0000000010/0000000001").code(5), 5);
        due.is("what no word has is no leader", Given.sums("111/111").code(5), 1);
    }

    private static void flips() {
        due.sentence("FLIPS, the LEADER of the SYNDROME that x xor y has; y is taken to be x xor FLIPS");
        CosetGauges x = Given.sums("110/011");
        // Only 0 and 7 have syndrome 0: the leaders are 0 and the words of one place.
        int[] flips = {0, 1, 2, 4, 4, 2, 1, 0};
        for (int first = 0; first < 8; first++) {
            for (int second = 0; second < 8; second++) {
                String call = "plain(" + first + ", " + second + ", ";
                due.is(call + "1)", x.plain(first, second, 1), flips[first ^ second]);
                due.is(call + "2)", x.plain(first, second, 2), first ^ flips[first ^ second]);
            }
        }
    }

    private static void trusted() {
        due.sentence("trusted, if WEIGHT of FLIPS is SURE or less");
        // SURE is 2 and RADIUS 3; only 0 and 63 have syndrome 0.
        CosetGauges x = Given.sums(BY_DISTANCE[6]);
        due.is("flips 0", x.plain(0, 0, 0), 0);
        due.is("flips of weight 1", x.plain(0, 32, 0), 0);
        due.is("flips of weight 2", x.plain(0, 48, 0), 0);
        due.is("flips of weight 3", x.plain(0, 7, 0), 1);
        due.is("flips of weight 3, wrong", x.plain(0, 56, 0), 2);
        due.is("flips of weight 2, wrong", x.plain(0, 15, 0), 3);
        due.is("flips of weight 1, wrong", x.plain(0, 31, 0), 3);
        due.is("flips 0, wrong", x.plain(0, 63, 0), 3);
    }

    private static void trustedAtTheEnds() {
        due.sentence("trusted, if WEIGHT of FLIPS is SURE or less (SURE is 0, and LENGTH)");
        CosetGauges x = Given.sums("111");
        int[] verdicts = {0, 1, 2, 3, 2, 3, 3, 2};
        CosetGauges y = Given.sums("100/010/001");
        for (int unlike = 0; unlike < 8; unlike++) {
            due.is("111: plain(0, " + unlike + ", 0)", x.plain(0, unlike, 0), verdicts[unlike]);
            due.is("111: plain(7, .., 0) of " + unlike, x.plain(7, 7 ^ unlike, 0), verdicts[unlike]);
            due.is("100/010/001: plain(0, " + unlike + ", 0)", y.plain(0, unlike, 0), 0);
        }
    }

    private static void bitsOfPlainAre(String text, int length, int rank) {
        CosetGauges x = Given.sums(text);
        due.is(text + ": count(5) ahead", x.count(5), 0);
        x.send(0, 0);
        due.is(text + ": count(5)", x.count(5), length + rank);
        due.is(text + ": count(6)", x.count(6), 2 * length);
        x.run(1, 2, 8);
        due.is(text + ": count(5) of three", x.count(5), 3 * (length + rank));
        due.is(text + ": count(6) of three", x.count(6), 6 * length);
    }

    private static void bitsOfPlain() {
        due.sentence("BITS that are sent: LENGTH, and RANK");
        bitsOfPlainAre("000", 3, 0);
        bitsOfPlainAre("111", 3, 1);
        bitsOfPlainAre("111/111", 3, 1);
        bitsOfPlainAre("110/011/101", 3, 2);
        bitsOfPlainAre("100/010/001/111/110", 3, 3);
        bitsOfPlainAre("1111111111", 10, 1);
        bitsOfPlainAre("1000000000/0100000000/0010000000/0001000000/0000100000", 10, 5);
    }

    private static void noPlaceInBoth() {
        due.sentence("by two sets of places (bits, no place in both)");
        CosetGauges x = Given.sums("1111111111");
        for (int place = 0; place < 10; place++) {
            int set = 1 << place;
            due.is("share of place " + place + " twice", x.share(set, set, 1), OUTSIDE);
            due.is("share of all and place " + place, x.share(1023, set, 1), OUTSIDE);
            due.is("share of all but it, and it", x.share(1023 ^ set, set, 1), 12);
            due.is("shared of place " + place + " twice", x.shared(set, set, 0, 0, false), OUTSIDE);
            due.is("shared of all and place " + place, x.shared(set, 1023, 0, 0, true), OUTSIDE);
            due.is("shared of all but it, and it", x.shared(set, 1023 ^ set, 5, 5, true), 5);
        }
    }

    private static void enoughIs(String text, int... sets) {
        CosetGauges x = Given.sums(text);
        for (int known = 0; known < sets.length; known++) {
            due.is(text + ": share(" + known + ", 0, 0)", x.share(known, 0, 0), sets[known]);
            due.is(text + ": share(0, " + known + ", 0)", x.share(0, known, 0), sets[known]);
            due.is(text + ": share by both of " + known, x.share(known & 5, known & 2, 0), sets[known]);
        }
    }

    private static void enough() {
        due.sentence("ENOUGH: no two WORDS of like SYNDROMES are alike at all places of both sets");
        enoughIs("100/010/001", 1, 1, 1, 1, 1, 1, 1, 1);
        enoughIs("110/011", 0, 1, 1, 1, 1, 1, 1, 1);
        enoughIs("111", 0, 0, 0, 1, 0, 1, 1, 1);
        enoughIs("110", 0, 0, 0, 0, 0, 1, 1, 1);
        enoughIs("000", 0, 0, 0, 0, 0, 0, 0, 1);
        CosetGauges x = Given.sums("0000000000");
        for (int place = 0; place < 10; place++) {
            due.is("all but place " + place, x.share(0, 1023 ^ 1 << place, 0), 0);
        }
        due.is("all places", x.share(1, 1022, 0), 1);
    }

    private static void bitsAtThePlaces() {
        due.sentence("the first word is taken to be the one of its SYNDROME that has these bits, the second one that xor FLIPS");
        CosetGauges x = Given.sums("111");
        // Flips of 5 xor 6 are 0: the one that sends its bits is taken for both.
        due.is("all from x: first", x.shared(7, 0, 5, 6, false), 5);
        due.is("all from x: second", x.shared(7, 0, 5, 6, true), 5);
        due.is("all from y: first", x.shared(0, 7, 5, 6, false), 6);
        due.is("all from y: second", x.shared(0, 7, 5, 6, true), 6);
        due.is("place 0 from x, 1 from y: first", x.shared(1, 2, 5, 6, false), 3);
        due.is("place 0 from y, 1 from x: first", x.shared(2, 1, 5, 6, false), 0);
        CosetGauges one = Given.sums("110/011");
        due.is("y is unlike at its place: first", one.shared(0, 1, 5, 4, false), 5);
        due.is("y is unlike at its place: second", one.shared(0, 1, 5, 4, true), 4);
        due.is("y is unlike beside its place: first", one.shared(0, 1, 5, 7, false), 5);
        due.is("y is unlike beside its place: second", one.shared(0, 1, 5, 7, true), 7);
        due.is("x is unlike at its place: first", one.shared(1, 0, 4, 5, false), 4);
        due.is("x is unlike at its place: second", one.shared(1, 0, 4, 5, true), 5);
        CosetGauges y = Given.sums("100/010/001");
        due.is("nothing but syndromes: first", y.shared(0, 0, 0, 7, false), 0);
        due.is("nothing but syndromes: second", y.shared(0, 0, 0, 7, true), 7);
        due.is("nothing but syndromes: first is 7", y.shared(0, 0, 7, 0, false), 7);
        due.is("nothing but syndromes: second is 0", y.shared(0, 0, 7, 0, true), 0);
        CosetGauges z = Given.sums("0000000000");
        due.is("nothing but bits: first", z.shared(1023, 0, 1023, 0, false), 1023);
        due.is("nothing but bits: second", z.shared(1023, 0, 1023, 0, true), 1023);
        due.is("nothing but bits, from y: first", z.shared(0, 1023, 1023, 0, false), 0);
        due.is("nothing but bits, from both: first", z.shared(1, 1022, 1023, 0, false), 1);
        due.is("nothing but bits, from both: second", z.shared(1, 1022, 1023, 0, true), 1);
    }

    private static void noSuchWord() {
        due.sentence("(Where FLIPS are not x xor y there may be no such WORD: then both are none.)");
        CosetGauges x = Given.sums("110/011");
        due.is("no such word: first", x.shared(2, 1, 0, 3, false), NONE);
        due.is("no such word: second", x.shared(2, 1, 0, 3, true), NONE);
        due.is("flips are x xor y: first", x.shared(2, 1, 0, 4, false), 0);
        due.is("flips are x xor y: second", x.shared(2, 1, 0, 4, true), 4);
        due.is("flips are not, but there is one: first", x.shared(1, 0, 0, 3, false), 0);
        due.is("flips are not, but there is one: second", x.shared(1, 0, 0, 3, true), 4);
        due.is("flips are not, one from y: first", x.shared(0, 1, 0, 3, false), 7);
        due.is("flips are not, one from y: second", x.shared(0, 1, 0, 3, true), 3);
    }

    private static void bitsOfShared() {
        due.sentence("BITS: twice RANK, and how many places are in both sets together");
        CosetGauges x = Given.sums("000");
        CosetGauges y = Given.sums("111/111");
        CosetGauges z = Given.sums("1000000000/0100000000/0010000000/0001000000/0000100000");
        due.is("rank 0, no place", x.share(0, 0, 1), 0);
        due.is("rank 0, one place", x.share(0, 4, 1), 1);
        due.is("rank 0, all places", x.share(3, 4, 1), 3);
        due.is("rank 1 of two rows, no place", y.share(0, 0, 1), 2);
        due.is("rank 1 of two rows, one and one", y.share(1, 2, 1), 4);
        due.is("rank 1 of two rows, all places", y.share(0, 7, 1), 5);
        due.is("rank 5, no place", z.share(0, 0, 1), 10);
        due.is("rank 5, one place", z.share(512, 0, 1), 11);
        due.is("rank 5, all but one", z.share(511, 0, 1), 19);
        due.is("rank 5, all places", z.share(511, 512, 1), 20);
        due.is("rank 5, all by the other one", z.share(0, 1023, 1), 20);
    }

    /** The SEED from which so many DRAWS lead to this one. */
    private static int seedAhead(long seed, int draws) {
        BigInteger modulus = BigInteger.TWO.pow(31);
        BigInteger undo = BigInteger.valueOf(1103515245).modInverse(modulus);
        BigInteger ahead = BigInteger.valueOf(seed);
        for (int i = 0; i < draws; i++) {
            ahead = ahead.subtract(BigInteger.valueOf(12345)).multiply(undo).mod(modulus);
        }
        return ahead.intValueExact();
    }

    /** Whether the place is unlike: ROW 0 has 1 there alone, so SURE is 0 and it is doubted then. */
    private static boolean isUnlike(int length, int place, int start, int k) {
        StringBuilder row = new StringBuilder("0".repeat(length));
        row.setCharAt(place, '1');
        CosetGauges x = Given.sums(row.toString());
        x.run(start, 1, k);
        return x.count(2) + x.count(3) == 1;
    }

    private static void drawOfEachPlace() {
        due.sentence("a DRAW of 16: if it is below k, y is unlike x there; by 65536 (rounded down), its rest");
        long[][] draws = {{0, 0}, {1, 0}, {65535, 0}, {65536, 1}, {131071, 1}, {131072, 2}, {983039, 14},
            {983040, 15}, {1048575, 15}, {1048576, 0}, {1114111, 0}, {1114112, 1}, {2147418111, 14},
            {2147418112, 15}, {2147483647, 15}};
        for (long[] draw : draws) {
            int start = seedAhead(draw[0], 2);
            for (int k = 0; k <= 16; k++) {
                due.holds("place 0 by seed " + draw[0] + " and k " + k, isUnlike(3, 0, start, k) == draw[1] < k);
            }
        }
    }

    private static void placesInOrder() {
        due.sentence("x by a DRAW, then of each place, from 0 on, a DRAW of 16");
        for (int length = 3; length <= 10; length++) {
            for (int place = 0; place < length; place++) {
                int start = seedAhead(7 * 65536, place + 2);
                due.holds(length + " signs, place " + place + ", k 7", !isUnlike(length, place, start, 7));
                due.holds(length + " signs, place " + place + ", k 8", isUnlike(length, place, start, 8));
            }
        }
    }

    private static void restByTwoToThe31() {
        due.sentence("the rest by 2 to the 31 of 1103515245 times it and 12345");
        for (int last : new int[] {0, 1, 12344, 12345, 12346, GREATEST - 1, GREATEST}) {
            int start = seedAhead(last, 4);
            CosetGauges x = Given.sums("111");
            x.run(start, 1, 3);
            due.is("seed() behind run(" + start + ", 1, 3)", x.seed(), last);
        }
        for (int passed : new int[] {0, 1, GREATEST - 1, GREATEST}) {
            int start = seedAhead(passed, 3);
            CosetGauges x = Given.sums("111");
            x.run(start, 1, 3);
            due.is("seed() one behind " + passed, x.seed(), (1103515245L * passed + 12345) % 2147483648L);
        }
    }

    private static void drawsOfARun() {
        due.sentence("n times: a DRAW for x and one for each place");
        for (int length = 3; length <= 10; length++) {
            for (int n : new int[] {1, 2, 49, 50}) {
                int start = seedAhead(1667, n * (length + 1));
                CosetGauges x = Given.sums("1".repeat(length));
                x.run(start, n, 8);
                due.is(length + " signs: seed() behind a run of " + n, x.seed(), 1667);
                int sent = x.count(1) + x.count(2) + x.count(3) + x.count(4);
                due.is(length + " signs: sent by a run of " + n, sent, n);
            }
        }
    }

    private static void betterIs(String text, int row, int word, int greater) {
        due.is(text + ": better(" + row + ", " + word + ")", Given.sums(text).better(row, word), greater);
    }

    private static void howMuchGreater() {
        due.sentence("how much greater DISTANCE would be (below 0: less)");
        betterIs("110/011", 0, 5, 0);
        betterIs("110/011", 0, 7, -1);
        betterIs("110/011", 0, 1, -1);
        betterIs("110/011", 0, 0, -2);
        betterIs("110/011", 0, 6, -2);
        betterIs("110", 0, 0, 0);
        betterIs("110", 0, 7, 1);
        betterIs("110/000", 1, 6, 2);
        betterIs("110/000", 1, 3, 0);
        betterIs(BY_DISTANCE[6], 4, 0, -5);
        betterIs("110000/101000/100100/100010/000000", 4, 33, 5);
    }

    private static void lengthAndOne() {
        due.sentence("without DISTANCE it counts as LENGTH and 1");
        betterIs("100/010/001", 2, 0, -3);
        betterIs("100/010/001", 2, 3, -3);
        betterIs("110/011/001", 2, 5, -1);
        betterIs("100/010/001", 2, 7, 0);
        betterIs("100/010/000", 2, 4, 3);
        betterIs("100/010/000", 2, 3, 0);
        betterIs("110/011/000", 2, 1, 1);
        betterIs("110/011/000", 2, 5, 0);
        betterIs("1000/0100/0010/0001", 3, 0, -4);
        betterIs("1000/0100/0010/0000", 3, 15, 4);
        betterIs("10000/01000/00100/00010/00001", 4, 0, -5);
        betterIs("10000/01000/00100/00010/00001", 0, 30, -5);
        betterIs("10000/01000/00100/00010/00001", 0, 31, 0);
        betterIs("10000/01000/00100/00010/00000", 4, 31, 5);
        betterIs("11000/01100/00110/00011/00000", 4, 16, 1);
    }

    private static void inItsPlace() {
        due.sentence("by another ROW than one of SUMS (told as a WORD) in its place");
        betterIs("110/000", 0, 6, 0);
        betterIs("110/000", 1, 6, 2);
        betterIs("110/000", 0, 3, 0);
        CosetGauges x = Given.sums("110/000/000");
        long before = x.digest();
        for (int row = 0; row < 3; row++) {
            due.is("better(" + row + ", 6)", x.better(row, 6), row == 0 ? 0 : 2);
            due.is("the row stays", x.row(row), row == 0 ? 3 : 0);
        }
        due.is("digest() stays", x.digest(), before);
    }
}
