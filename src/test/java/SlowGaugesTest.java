import java.util.Random;

/** Long mixed runs of calls, each answer held against SlowGauges; the runs are always the same. */
public final class SlowGaugesTest {
    private static final int RUNS = 120;
    private static final int CALLS = 500;
    private static final int[] ODD = {-1, Integer.MIN_VALUE, Integer.MAX_VALUE, 1024, 32, 11, 7, 6, 5, 3, 17, 51};

    private final Due due;
    private final Random random;
    private final CosetGauges fast = new CosetGauges();
    private final SlowGauges slow = new SlowGauges();
    private int length = 3;
    private int rows = 1;

    private SlowGaugesTest(Due due, int run) {
        this.due = due;
        this.random = new Random(1667 + run);
    }

    public static void main(String[] args) {
        Due due = new Due("SlowGaugesTest");
        for (int run = 0; run < RUNS; run++) {
            new SlowGaugesTest(due, run).calls(run);
        }
        due.end();
    }

    private void calls(int run) {
        int texts = 0;
        for (int call = 0; call < CALLS; ) {
            if (random.nextInt(60) == 0 || call > 20 && texts == 0) {
                call += text(run);
                texts++;
            } else {
                call(run);
                call++;
            }
        }
        due.is("run " + run + ": digest()", fast.digest(), slow.digest());
    }

    /** SUMS, in a third of all cases with one letter that is another one, or one too few or many. */
    private int text(int run) {
        int wantedLength = random.nextInt(4) == 0 ? 10 : 3 + random.nextInt(8);
        int wantedRows = 1 + random.nextInt(5);
        StringBuilder text = new StringBuilder();
        for (int row = 0; row < wantedRows; row++) {
            text.append(row == 0 ? "" : "/");
            for (int place = 0; place < wantedLength; place++) {
                text.append((char) ('0' + random.nextInt(2)));
            }
        }
        spoil(text);
        if (random.nextInt(3) != 0) {
            is(run, "blank()", fast.blank(), slow.blank());
        }
        for (int i = 0; i < text.length(); i++) {
            int code = text.charAt(i);
            is(run, "letter(" + code + ")", fast.letter(code), slow.letter(code));
        }
        is(run, "fault() of " + text, fast.fault(), slow.fault());
        int got = fast.sums();
        is(run, "sums() of " + text, got, slow.sums());
        if (got > 0) {
            length = got;
            rows = fast.code(1);
        }
        return text.length() + 3;
    }

    private void spoil(StringBuilder text) {
        int at = random.nextInt(text.length());
        switch (random.nextInt(9)) {
            case 0 -> text.setCharAt(at, "01/2 .".charAt(random.nextInt(6)));
            case 1 -> text.deleteCharAt(at);
            case 2 -> text.insert(at, "01/".charAt(random.nextInt(3)));
            default -> { }
        }
    }

    private int word() {
        return random.nextInt(40) == 0 ? odd() : random.nextInt(1 << length);
    }

    private int odd() {
        return ODD[random.nextInt(ODD.length)];
    }

    private int upTo(int greatest) {
        return random.nextInt(20) == 0 ? odd() : random.nextInt(greatest + 1);
    }

    /** A set beside another one: mostly without its places, and large enough to know much. */
    private int beside(int one) {
        int set = (word() | word()) & ~one;
        return random.nextInt(20) == 0 ? word() : set & ((1 << length) - 1);
    }

    private void call(int run) {
        int a = word();
        int b = random.nextInt(3) == 0 ? word() : a ^ 1 << random.nextInt(length);
        switch (random.nextInt(18)) {
            case 0 -> is(run, "fault()", fast.fault(), slow.fault());
            case 1 -> letter(run);
            case 2 -> one(run);
            case 3 -> two(run);
            case 4, 5 -> is(run, "send(" + a + ", " + b + ")", fast.send(a, b), slow.send(a, b));
            case 6, 7, 8 -> plain(run, a, b);
            case 9 -> share(run);
            case 10, 11, 12 -> shared(run, a, b);
            case 13 -> run(run);
            case 14 -> is(run, "seed()", fast.seed(), slow.seed());
            case 15, 16 -> count(run);
            default -> is(run, "digest()", fast.digest(), slow.digest());
        }
    }

    private void letter(int run) {
        int code = random.nextInt(4) == 0 ? odd() : random.nextInt(140);
        is(run, "letter(" + code + ")", fast.letter(code), slow.letter(code));
    }

    private void one(int run) {
        int what = upTo(6);
        is(run, "code(" + what + ")", fast.code(what), slow.code(what));
        int row = upTo(4);
        is(run, "row(" + row + ")", fast.row(row), slow.row(row));
        int word = word();
        is(run, "syndrome(" + word + ")", fast.syndrome(word), slow.syndrome(word));
        int syndrome = upTo((1 << rows) - 1);
        is(run, "leader(" + syndrome + ")", fast.leader(syndrome), slow.leader(syndrome));
        int weight = upTo(length);
        is(run, "leaders(" + weight + ")", fast.leaders(weight), slow.leaders(weight));
    }

    private void two(int run) {
        int syndrome = upTo((1 << rows) - 1);
        int place = upTo(1 << Math.max(0, length - random.nextInt(rows + 1)));
        is(run, "coset(" + syndrome + ", " + place + ")", fast.coset(syndrome, place), slow.coset(syndrome, place));
        int row = upTo(rows - 1);
        int word = word();
        is(run, "better(" + row + ", " + word + ")", fast.better(row, word), slow.better(row, word));
    }

    private void plain(int run, int x, int y) {
        int what = upTo(2);
        is(run, "plain(" + x + ", " + y + ", " + what + ")", fast.plain(x, y, what), slow.plain(x, y, what));
    }

    private void share(int run) {
        int one = word();
        int other = beside(one);
        int what = upTo(1);
        is(run, "share(" + one + ", " + other + ", " + what + ")",
            fast.share(one, other, what), slow.share(one, other, what));
    }

    private void shared(int run, int x, int y) {
        int one = word();
        int other = beside(one);
        for (boolean second : new boolean[] {false, true}) {
            is(run, "shared(" + one + ", " + other + ", " + x + ", " + y + ", " + second + ")",
                fast.shared(one, other, x, y, second), slow.shared(one, other, x, y, second));
        }
    }

    private void run(int run) {
        int start = random.nextInt(20) == 0 ? odd() : random.nextInt() >>> 1;
        int n = random.nextInt(10) == 0 ? odd() : 1 + random.nextInt(random.nextInt(5) == 0 ? 50 : 5);
        int k = upTo(16);
        is(run, "run(" + start + ", " + n + ", " + k + ")", fast.run(start, n, k), slow.run(start, n, k));
    }

    private void count(int run) {
        int what = upTo(7);
        is(run, "count(" + what + ")", fast.count(what), slow.count(what));
    }

    private void is(int run, String call, long got, long want) {
        due.is("run " + run + ": " + call, got, want);
    }
}
