import java.util.function.IntUnaryOperator;

/**
 * Runs of calls near 512 on one object, and what count() and digest() tell at their end. Each object
 * is used for 512 calls at most; what is asked last is asked of as many objects as it has questions.
 */
public final class LongRunsTest {
    private static final int OUTSIDE = -1002;
    private static final int STATE = -1003;
    private static final int FULL = -1004;
    private static final int MOST_CALLS = 512;
    private static final int[] NEAR_THE_END = {509, 510, 511, 512};
    private static final int[] NO_COUNTS = {0, 0, 0, 0, 0, 0, 0, 0};
    private static final String LONGEST = "1000000000/0100000000/0010000000/0001000000/0000100000";

    private static final Due due = new Due("LongRunsTest");

    private LongRunsTest() {
    }

    public static void main(String[] args) {
        letters();
        refusalsWithoutSums();
        readings();
        sends();
        runs();
        runsOfTheLongest();
        seedsOfRuns();
        nothingIsCounted();
        refusals();
        mixed();
        due.end();
    }

    /** Makes an object and so many calls on it. */
    private interface Course {
        CosetGauges after(int calls);
    }

    private static long hashed(long start, int... numbers) {
        long h = start;
        for (int number : numbers) {
            h = 31 * h + number;
        }
        return h;
    }

    /** The last call is the one that asks; all calls ahead of it are the course's. */
    private static void tellsAtTheEnd(String what, Course course, int calls, int[] sums, int seed, String letters,
            int... counts) {
        String told = what + ", as call " + calls + ": ";
        for (int i = 0; i < counts.length; i++) {
            due.is(told + "count(" + i + ")", course.after(calls - 1).count(i), counts[i]);
        }
        due.is(told + "seed()", course.after(calls - 1).seed(), seed);
        long h = hashed(hashed(1667, sums), seed);
        h = hashed(h, letters.chars().toArray());
        due.is(told + "digest()", course.after(calls - 1).digest(), hashed(h, counts));
    }

    private static void letters() {
        due.sentence("2, 3, 19: letters of THE PAGE, 56 and blank() again and again");
        Course course = calls -> {
            CosetGauges x = new CosetGauges();
            for (int call = 1; call <= calls; call++) {
                int had = (call - 1) % 58;
                if (had < 56) {
                    due.is("letter no. " + call, x.letter(126 - had), had + 1);
                } else if (had == 56) {
                    due.is("letter no. " + call, x.letter(126), FULL);
                } else {
                    due.is("blank() as call " + call, x.blank(), 56);
                }
            }
            return x;
        };
        for (int calls : NEAR_THE_END) {
            StringBuilder left = new StringBuilder();
            for (int had = 0; had < (calls - 1) % 58; had++) {
                left.append((char) (126 - had));
            }
            int[] counts = {left.length(), 0, 0, 0, 0, 0, 0, 0};
            tellsAtTheEnd("letters", course, calls, new int[0], -1, left.toString(), counts);
        }
    }

    private static void refusalsWithoutSums() {
        due.sentence("Refusals change nothing (no SUMS, to the last call)");
        Course course = calls -> {
            CosetGauges x = new CosetGauges();
            for (int call = 1; call <= calls; call++) {
                switch (call % 8) {
                    case 0 -> due.is("letter(31)", x.letter(31), OUTSIDE);
                    case 1 -> due.is("sums()", x.sums(), STATE);
                    case 2 -> due.is("code(0)", x.code(0), STATE);
                    case 3 -> due.is("code(7)", x.code(7), OUTSIDE);
                    case 4 -> due.is("send(0, 0)", x.send(0, 0), STATE);
                    case 5 -> due.is("run(0, 1, 0)", x.run(0, 1, 0), STATE);
                    case 6 -> due.is("count(8)", x.count(8), OUTSIDE);
                    default -> due.is("better(0, 0)", x.better(0, 0), STATE);
                }
            }
            return x;
        };
        for (int calls : NEAR_THE_END) {
            tellsAtTheEnd("refusals", course, calls, new int[0], -1, "", NO_COUNTS);
        }
    }

    // What digest() takes of the SUMS 111: two COSETS, the WORDS of an even WEIGHT and the others.
    private static final int[] PARITY_OF_THREE = {3, 1, 1, 2, 0, 1, 0, 7, 0, 1, 1, 1, 0, 0};

    private static void readings() {
        due.sentence("5, 19: how often SUMS were read");
        Course course = calls -> {
            CosetGauges x = new CosetGauges();
            for (int call = 1; call <= calls; call++) {
                if (call % 4 == 0) {
                    due.is("sums() as call " + call, x.sums(), 3);
                } else {
                    due.is("letter(49) as call " + call, x.letter(49), call % 4);
                }
            }
            return x;
        };
        for (int calls : NEAR_THE_END) {
            int left = (calls - 1) % 4;
            int[] counts = {left, 0, 0, 0, 0, 0, 0, (calls - 1) / 4};
            tellsAtTheEnd("readings", course, calls, PARITY_OF_THREE, -1, "1".repeat(left), counts);
        }
        due.is("read 127 times ahead of call 512", course.after(511).count(7), 127);
    }

    private static CosetGauges read(String text) {
        return Given.sums(text);
    }

    private static void sends() {
        due.sentence("13, 19: sent PLAIN with VERDICT 0 to 3, to the last call");
        Course course = calls -> {
            CosetGauges x = read("111");
            for (int call = 5; call <= calls; call++) {
                int y = (call - 5) % 4;
                due.is("send(0, " + y + ") as call " + call, x.send(0, y), y);
            }
            return x;
        };
        for (int calls : NEAR_THE_END) {
            int sent = calls - 5;
            int[] counts = {0, (sent + 3) / 4, (sent + 2) / 4, (sent + 1) / 4, sent / 4, sent * 4, sent * 6, 1};
            tellsAtTheEnd("sends", course, calls, PARITY_OF_THREE, -1, "", counts);
        }
        due.is("507 are sent ahead of call 512", course.after(511).count(5), 2028);
    }

    private static int seedBehind(int seed, int draws) {
        long now = seed;
        for (int draw = 0; draw < draws; draw++) {
            now = (1103515245L * now + 12345L) % 2147483648L;
        }
        return (int) now;
    }

    private static void runs() {
        due.sentence("17, 19: RUNS, too (each of 50, to the last call; all are wrong and trusted)");
        int[] sums = {3, 1, 0, 1, 0, 0, 1, 0, 0, -1001, 1, 0, 0, 0};
        Course course = calls -> {
            CosetGauges x = read("000");
            for (int call = 5; call <= calls; call++) {
                due.is("run as call " + call, x.run(call, 50, 16), 50);
            }
            return x;
        };
        for (int calls : NEAR_THE_END) {
            int sent = (calls - 5) * 50;
            int[] counts = {0, 0, 0, 0, sent, sent * 3, sent * 6, 1};
            tellsAtTheEnd("runs", course, calls, sums, seedBehind(calls - 1, 200), "", counts);
        }
        due.is("25350 were wrong and trusted ahead of call 512", course.after(511).count(4), 25350);
        due.is("their BITS", course.after(511).count(5), 76050);
        due.is("by both plainly", course.after(511).count(6), 152100);
    }

    private static int[] numbersOfTheLongest() {
        int[] numbers = new int[7 + 5 + 32 + 11];
        int[] ahead = {10, 5, 5, 1, 0, 5, 0, 1, 2, 4, 8, 16};
        int[] behind = {1, 5, 10, 10, 5, 1, 0, 0, 0, 0, 0};
        System.arraycopy(ahead, 0, numbers, 0, ahead.length);
        for (int syndrome = 0; syndrome < 32; syndrome++) {
            numbers[ahead.length + syndrome] = syndrome;
        }
        System.arraycopy(behind, 0, numbers, ahead.length + 32, behind.length);
        return numbers;
    }

    private static void runsOfTheLongest() {
        due.sentence("17, 19: RUNS, too (the longest SUMS; no flip, and flips of all places, by turns)");
        Course course = calls -> {
            CosetGauges x = read(LONGEST);
            for (int call = 56; call <= calls; call++) {
                due.is("run as call " + call, x.run(Integer.MAX_VALUE, 50, call % 2 == 0 ? 0 : 16), 0);
            }
            return x;
        };
        for (int calls : NEAR_THE_END) {
            int made = calls - 56;
            int[] counts = {0, (made + 1) / 2 * 50, 0, made / 2 * 50, 0, made * 750, made * 1000, 1};
            int seed = seedBehind(Integer.MAX_VALUE, 550);
            tellsAtTheEnd("runs of the longest", course, calls, numbersOfTheLongest(), seed, "", counts);
        }
        due.is("456 RUNS ahead of call 512", course.after(511).count(6), 456000);
    }

    private static void seedsOfRuns() {
        due.sentence("17, 18: each RUN starts by its own SEED, and goes on from the one behind the last as well as from any");
        CosetGauges x = read("10000/01000/00100/00010/00001");
        int seed = 1667;
        for (int call = 31; call < MOST_CALLS; call += 2) {
            due.is("each word has a SYNDROME of its own", x.run(seed, 3, 8), 0);
            seed = seedBehind(seed, 18);
            due.is("seed() as call " + (call + 1), x.seed(), seed);
        }
        CosetGauges y = read("10000/01000/00100/00010/00001");
        for (int call = 31; call < MOST_CALLS; call++) {
            y.run(1667, 50, call % 17);
        }
        due.is("seed() as call 512, behind 482 RUNS alike", y.seed(), seedBehind(1667, 300));
    }

    /** Calls that tell of SUMS alone: by the number of the call, so that each kind comes often. */
    private static int asked(CosetGauges x, int call) {
        int word = call % 128;
        int y = call * 37 % 128;
        switch (call % 12) {
            case 0: return x.code(call % 7);
            case 1: return x.row(call % 3);
            case 2: return x.syndrome(word);
            case 3: return x.leader(call % 8);
            case 4: return x.coset(call % 8, call % 17);
            case 5: return x.leaders(call % 8);
            case 6: return x.better(call % 3, word);
            case 7: return x.plain(word, y, call % 3);
            case 8: return x.share(word & 85, y & 42, call % 2);
            case 9: return x.shared(word | 15, 0, word, y, call % 2 == 0);
            case 10: return x.fault();
            default: return x.seed();
        }
    }

    private static final int[] HAMMING_NUMBERS = {7, 3, 3, 3, 1, 1, 1, 85, 102, 120, 0, 1, 2, 4, 8, 16, 32, 64,
        1, 7, 0, 0, 0, 0, 0, 0};

    private static CosetGauges hamming() {
        return read("1010101/0110011/0001111");
    }

    private static void nothingIsCounted() {
        due.sentence("Nothing is counted, and nothing changes, by what only tells (to the last call)");
        Course course = calls -> {
            CosetGauges x = hamming();
            for (int call = 25; call <= calls; call++) {
                due.holds("it is answered as call " + call, asked(x, call) != OUTSIDE);
            }
            return x;
        };
        for (int calls : NEAR_THE_END) {
            tellsAtTheEnd("telling", course, calls, HAMMING_NUMBERS, -1, "", 0, 0, 0, 0, 0, 0, 0, 1);
        }
        CosetGauges late = course.after(500);
        CosetGauges early = hamming();
        for (int call = 501; call <= MOST_CALLS; call++) {
            due.is("asked late as soon, call " + call, asked(late, call), asked(early, call));
        }
    }

    private static int refused(CosetGauges x, int call) {
        int outside = call % 2 == 0 ? -1 : 128;
        IntUnaryOperator[] kinds = {x::row, x::syndrome, x::leader, x::leaders, x::code, x::count,
            a -> x.letter(a), a -> x.coset(a, 0), a -> x.better(a, 0), a -> x.better(0, a),
            a -> x.send(a, 0), a -> x.send(0, a), a -> x.plain(0, 0, a), a -> x.share(0, a, 0),
            a -> x.shared(a, 0, 0, 0, true), a -> x.run(a == 128 ? -128 : a, 1, 0), a -> x.run(0, a, 0),
            a -> x.run(0, 1, a)};
        return kinds[call % kinds.length].applyAsInt(outside);
    }

    private static void refusals() {
        due.sentence("Refusals change nothing (with SUMS, to the last call)");
        Course course = calls -> {
            CosetGauges x = hamming();
            x.run(7, 20, 0);
            x.letter(47);
            for (int call = 27; call <= calls; call++) {
                due.is("refused as call " + call, refused(x, call), OUTSIDE);
            }
            return x;
        };
        for (int calls : NEAR_THE_END) {
            int[] counts = {1, 20, 0, 0, 0, 200, 280, 1};
            tellsAtTheEnd("refusals", course, calls, HAMMING_NUMBERS, seedBehind(7, 160), "/", counts);
        }
    }

    /**
     * Rounds of SUMS, sends and a RUN, as many as 512 calls have room for. What is due is counted here
     * by the answers of the same calls: a send by its VERDICT, BITS by LENGTH and RANK of its SUMS.
     */
    private static void mixed() {
        due.sentence("19: what was counted stays, over SUMS of every kind");
        String[] texts = {"111", "110/011", "110/110", "1010101/0110011/0001111", "1100/0110/0011", "000"};
        CosetGauges x = new CosetGauges();
        int[] counts = new int[8];
        int calls = 0;
        int rounds = 0;
        while (calls + 62 <= MOST_CALLS - 9) {
            String text = texts[rounds % texts.length];
            Given.write(x, text);
            int length = x.sums();
            int rank = x.code(2);
            calls += text.length() + 2;
            counts[7]++;
            for (int y = 0; y < 32; y++) {
                int verdict = x.send(0, y % (1 << length));
                counts[1 + verdict]++;
                counts[5] += length + rank;
                counts[6] += 2 * length;
            }
            calls += 32;
            counts[4] += x.run(rounds, 50, 0);
            counts[1] += 50;
            counts[5] += 50 * (length + rank);
            counts[6] += 100 * length;
            calls++;
            rounds++;
        }
        while (calls < MOST_CALLS - 9) {
            x.letter(48);
            calls++;
            counts[0] = Math.min(56, counts[0] + 1);
        }
        for (int what = 0; what < 8; what++) {
            due.is("count(" + what + ") behind " + rounds + " SUMS", x.count(what), counts[what]);
        }
        long h = hashed(1667);
        for (int number : numbersAt(texts[(rounds - 1) % texts.length])) {
            h = hashed(h, number);
        }
        h = hashed(h, seedBehind(rounds - 1, 50 * ((texts[(rounds - 1) % texts.length] + "/").indexOf('/') + 1)));
        for (int letter = 0; letter < counts[0]; letter++) {
            h = hashed(h, 48);
        }
        due.is("digest() as call 512", x.digest(), hashed(h, counts));
    }

    /** What digest() takes of SUMS, asked of an object of its own. */
    private static int[] numbersAt(String text) {
        CosetGauges y = read(text);
        int length = y.code(0);
        int rows = y.code(1);
        int[] numbers = new int[7 + rows + (1 << rows) + length + 1];
        int size = 0;
        for (int what = 0; what <= 6; what++) {
            numbers[size++] = y.code(what);
        }
        for (int row = 0; row < rows; row++) {
            numbers[size++] = y.row(row);
        }
        for (int syndrome = 0; syndrome < 1 << rows; syndrome++) {
            numbers[size++] = y.leader(syndrome);
        }
        for (int weight = 0; weight <= length; weight++) {
            numbers[size++] = y.leaders(weight);
        }
        return numbers;
    }
}
