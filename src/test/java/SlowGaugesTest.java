import java.util.Random;

/**
 * Mixed runs of 512 calls each, as many as an object is used for; each answer is held against
 * SlowGauges. The runs are always the same; the last calls of each are all of count(), and digest().
 */
public final class SlowGaugesTest {
    private static final int RUNS = 150;
    private static final int MOST_CALLS = 512;
    private static final int CLOSING_CALLS = 10;
    private static final int MOST_CALLS_OF_A_TEXT = 60;
    private static final int[] ODD = {-1, Integer.MIN_VALUE, Integer.MAX_VALUE, 1024, 32, 11, 7, 6, 5, 3, 17, 51};

    private final Due due;
    private final Random random;
    private final CosetGauges fast = new CosetGauges();
    private final SlowGauges slow = new SlowGauges();
    private final int run;
    private int made = 0;
    private int length = 3;
    private int rows = 1;

    private SlowGaugesTest(Due due, int run) {
        this.due = due;
        this.run = run;
        this.random = new Random(1667 + run);
    }

    public static void main(String[] args) {
        Due due = new Due("SlowGaugesTest");
        for (int run = 0; run < RUNS; run++) {
            new SlowGaugesTest(due, run).calls();
        }
        due.end();
    }

    private void calls() {
        int texts = 0;
        while (made < MOST_CALLS - CLOSING_CALLS) {
            boolean room = made + MOST_CALLS_OF_A_TEXT <= MOST_CALLS - CLOSING_CALLS;
            if (room && (random.nextInt(60) == 0 || made > 20 && texts == 0)) {
                text();
                texts++;
            } else {
                call();
            }
        }
        is("seed()", fast.seed(), slow.seed());
        for (int what = 0; what <= 7; what++) {
            is("count(" + what + ")", fast.count(what), slow.count(what));
        }
        is("digest()", fast.digest(), slow.digest());
        due.is("run " + run + " has so many calls", made, MOST_CALLS);
    }

    /** SUMS, in a third of all cases with one letter that is another one, or one too few or many. */
    private void text() {
        int wantedLength = random.nextInt(4) == 0 ? 10 : 3 + random.nextInt(8);
        int wantedRows = 1 + random.nextInt(5);
        StringBuilder text = new StringBuilder();
        for (int row = 0; row < wantedRows; row++) {
            text.append(row == 0 ? "" : "/");
            for (int place = 0; place < wantedLength; place++) {
                text.append((char) ('0' + random.nextInt(2)));
            }
        }
        spoil(text);
        if (random.nextInt(3) != 0) {
            is("blank()", fast.blank(), slow.blank());
        }
        for (int i = 0; i < text.length(); i++) {
            int code = text.charAt(i);
            is("letter(" + code + ")", fast.letter(code), slow.letter(code));
        }
        is("fault() of " + text, fast.fault(), slow.fault());
        int got = fast.sums();
        is("sums() of " + text, got, slow.sums());
        if (got > 0) {
            length = got;
            rows = text.toString().split("/").length;
        }
    }

    private void spoil(StringBuilder text) {
        int at = random.nextInt(text.length());
        switch (random.nextInt(9)) {
            case 0 -> text.setCharAt(at, "01/2 .".charAt(random.nextInt(6)));
            case 1 -> text.deleteCharAt(at);
            case 2 -> text.insert(at, "01/".charAt(random.nextInt(3)));
            default -> { }
        }
    }

    private int word() {
        return random.nextInt(40) == 0 ? odd() : random.nextInt(1 << length);
    }

    private int odd() {
        return ODD[random.nextInt(ODD.length)];
    }

    private int upTo(int greatest) {
        return random.nextInt(20) == 0 ? odd() : random.nextInt(greatest + 1);
    }

    /** A set beside another one: mostly without its places, and large enough to know much. */
    private int beside(int one) {
        int set = (word() | word()) & ~one;
        return random.nextInt(20) == 0 ? word() : set & ((1 << length) - 1);
    }

    private void call() {
        int a = word();
        int b = random.nextInt(3) == 0 ? word() : a ^ 1 << random.nextInt(length);
        switch (random.nextInt(22)) {
            case 0 -> is("fault()", fast.fault(), slow.fault());
            case 1 -> letter();
            case 2, 3, 4, 5 -> one();
            case 6 -> two();
            case 7, 8 -> is("send(" + a + ", " + b + ")", fast.send(a, b), slow.send(a, b));
            case 9, 10, 11 -> plain(a, b);
            case 12 -> share();
            case 13, 14, 15, 16 -> shared(a, b);
            case 17 -> drawn();
            case 18 -> is("seed()", fast.seed(), slow.seed());
            case 19, 20 -> count();
            default -> is("digest()", fast.digest(), slow.digest());
        }
    }

    private void letter() {
        int code = random.nextInt(4) == 0 ? odd() : random.nextInt(140);
        is("letter(" + code + ")", fast.letter(code), slow.letter(code));
    }

    private void one() {
        int what = upTo(6);
        int row = upTo(4);
        int word = word();
        int syndrome = upTo((1 << rows) - 1);
        int weight = upTo(length);
        switch (random.nextInt(5)) {
            case 0 -> is("code(" + what + ")", fast.code(what), slow.code(what));
            case 1 -> is("row(" + row + ")", fast.row(row), slow.row(row));
            case 2 -> is("syndrome(" + word + ")", fast.syndrome(word), slow.syndrome(word));
            case 3 -> is("leader(" + syndrome + ")", fast.leader(syndrome), slow.leader(syndrome));
            default -> is("leaders(" + weight + ")", fast.leaders(weight), slow.leaders(weight));
        }
    }

    private void two() {
        int syndrome = upTo((1 << rows) - 1);
        int place = upTo(1 << Math.max(0, length - random.nextInt(rows + 1)));
        int row = upTo(rows - 1);
        int word = word();
        if (random.nextBoolean()) {
            is("coset(" + syndrome + ", " + place + ")", fast.coset(syndrome, place), slow.coset(syndrome, place));
        } else {
            is("better(" + row + ", " + word + ")", fast.better(row, word), slow.better(row, word));
        }
    }

    private void plain(int x, int y) {
        int what = upTo(2);
        is("plain(" + x + ", " + y + ", " + what + ")", fast.plain(x, y, what), slow.plain(x, y, what));
    }

    private void share() {
        int one = word();
        int other = beside(one);
        int what = upTo(1);
        is("share(" + one + ", " + other + ", " + what + ")",
            fast.share(one, other, what), slow.share(one, other, what));
    }

    private void shared(int x, int y) {
        int one = word();
        int other = beside(one);
        boolean second = random.nextBoolean();
        is("shared(" + one + ", " + other + ", " + x + ", " + y + ", " + second + ")",
            fast.shared(one, other, x, y, second), slow.shared(one, other, x, y, second));
    }

    private void drawn() {
        int start = random.nextInt(20) == 0 ? odd() : random.nextInt() >>> 1;
        int n = random.nextInt(10) == 0 ? odd() : 1 + random.nextInt(random.nextInt(5) == 0 ? 50 : 5);
        int k = upTo(16);
        is("run(" + start + ", " + n + ", " + k + ")", fast.run(start, n, k), slow.run(start, n, k));
    }

    private void count() {
        int what = upTo(7);
        is("count(" + what + ")", fast.count(what), slow.count(what));
    }

    private void is(String call, long got, long want) {
        made++;
        due.is("run " + run + ": " + call, got, want);
    }
}
