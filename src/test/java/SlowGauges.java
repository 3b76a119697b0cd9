import java.util.ArrayList;
import java.util.List;

/**
 * The document once more, as literally and as slowly as it can be written: nothing is kept but the
 * texts and the counts, every answer is looked for among all words, and each term is taken by its own definition.
 */
final class SlowGauges {
    private static final int NONE = -1001;
    private static final int OUTSIDE = -1002;
    private static final int STATE = -1003;
    private static final int FULL = -1004;

    private String page = "";
    private String[] rows = new String[0];
    private long seed = -1;
    private final int[] counts = new int[8];

    int letter(int code) {
        if (code < 32 || code > 126) {
            return OUTSIDE;
        }
        if (page.length() == 56) {
            return FULL;
        }
        page += (char) code;
        return page.length();
    }

    int blank() {
        int had = page.length();
        page = "";
        return had;
    }

    /** All forms of SUMS, a sign told by "?". */
    private static List<String> forms() {
        List<String> forms = new ArrayList<>();
        for (int length = 3; length <= 10; length++) {
            String form = "?".repeat(length);
            for (int rows = 1; rows <= 5; rows++) {
                forms.add(form);
                form += "/" + "?".repeat(length);
            }
        }
        return forms;
    }

    private static final List<String> FORMS = forms();

    private static boolean begins(String text, String form) {
        if (text.length() > form.length()) {
            return false;
        }
        for (int i = 0; i < text.length(); i++) {
            char sign = text.charAt(i);
            boolean fits = form.charAt(i) == '/' ? sign == '/' : sign == '0' || sign == '1';
            if (!fits) {
                return false;
            }
        }
        return true;
    }

    int fault() {
        for (int letters = 1; letters <= page.length(); letters++) {
            String head = page.substring(0, letters);
            if (FORMS.stream().noneMatch(form -> begins(head, form))) {
                return letters - 1;
            }
        }
        return page.length();
    }

    int sums() {
        String text = page;
        if (FORMS.stream().noneMatch(form -> form.length() == text.length() && begins(text, form))) {
            return STATE;
        }
        rows = page.split("/");
        page = "";
        counts[7]++;
        return length();
    }

    private boolean none() {
        return rows.length == 0;
    }

    private int length() {
        return rows[0].length();
    }

    private int words() {
        return 1 << length();
    }

    private int syndromes() {
        return 1 << rows.length;
    }

    private boolean isWord(int word) {
        return word >= 0 && word < words();
    }

    private static boolean has(int word, int place) {
        return (word >> place) % 2 == 1;
    }

    private static int weight(int word) {
        int weight = 0;
        for (int place = 0; place < 10; place++) {
            weight += has(word, place) ? 1 : 0;
        }
        return weight;
    }

    private static int syndromeBy(String[] rows, int word) {
        int syndrome = 0;
        for (int i = 0; i < rows.length; i++) {
            int both = 0;
            for (int place = 0; place < rows[i].length(); place++) {
                both += rows[i].charAt(place) == '1' && has(word, place) ? 1 : 0;
            }
            syndrome += both % 2 == 1 ? 1 << i : 0;
        }
        return syndrome;
    }

    private List<Integer> cosetOf(int syndrome) {
        List<Integer> coset = new ArrayList<>();
        for (int word = 0; word < words(); word++) {
            if (syndromeBy(rows, word) == syndrome) {
                coset.add(word);
            }
        }
        return coset;
    }

    private int leaderOf(int syndrome) {
        return cosetOf(syndrome).stream().min((a, b) -> weight(a) != weight(b) ? weight(a) - weight(b) : a - b)
            .orElse(NONE);
    }

    private int[] allLeaders() {
        int[] leaders = new int[syndromes()];
        for (int syndrome = 0; syndrome < leaders.length; syndrome++) {
            leaders[syndrome] = leaderOf(syndrome);
        }
        return leaders;
    }

    private int rank() {
        int reached = 0;
        for (int leader : allLeaders()) {
            reached += leader == NONE ? 0 : 1;
        }
        int rank = 0;
        while (1 << rank < reached) {
            rank++;
        }
        return 1 << rank == reached ? rank : -77;
    }

    private static int distanceBy(String[] rows) {
        int distance = NONE;
        for (int word = 1; word < 1 << rows[0].length(); word++) {
            if (syndromeBy(rows, word) == 0 && (distance == NONE || weight(word) < distance)) {
                distance = weight(word);
            }
        }
        return distance;
    }

    private boolean isSure(int t) {
        for (int syndrome = 0; syndrome < syndromes(); syndrome++) {
            List<Integer> coset = cosetOf(syndrome);
            for (int word : coset) {
                if (weight(word) <= t
                    && coset.stream().anyMatch(other -> other != word && weight(other) <= weight(word))) {
                    return false;
                }
            }
        }
        return true;
    }

    private int sure() {
        int sure = 0;
        while (sure < length() && isSure(sure + 1)) {
            sure++;
        }
        return sure;
    }

    private int radius() {
        int radius = 0;
        for (int leader : allLeaders()) {
            radius = leader == NONE ? radius : Math.max(radius, weight(leader));
        }
        return radius;
    }

    int code(int what) {
        if (what < 0 || what > 6) {
            return OUTSIDE;
        }
        if (none()) {
            return STATE;
        }
        return switch (what) {
            case 0 -> length();
            case 1 -> rows.length;
            case 2 -> rank();
            case 3 -> distanceBy(rows);
            case 4 -> sure();
            case 5 -> radius();
            default -> radius() == sure() ? 1 : 0;
        };
    }

    int row(int row) {
        if (none()) {
            return STATE;
        }
        return row < 0 || row >= rows.length ? OUTSIDE
            : Integer.parseInt(new StringBuilder(rows[row]).reverse().toString(), 2);
    }

    int syndrome(int word) {
        if (none()) {
            return STATE;
        }
        return isWord(word) ? syndromeBy(rows, word) : OUTSIDE;
    }

    int leader(int syndrome) {
        if (none()) {
            return STATE;
        }
        return syndrome < 0 || syndrome >= syndromes() ? OUTSIDE : leaderOf(syndrome);
    }

    int coset(int syndrome, int place) {
        if (none()) {
            return STATE;
        }
        if (syndrome < 0 || syndrome >= syndromes()) {
            return OUTSIDE;
        }
        List<Integer> coset = cosetOf(syndrome);
        return place < 0 || place >= coset.size() ? NONE : coset.get(place);
    }

    int leaders(int weight) {
        if (none()) {
            return STATE;
        }
        if (weight < 0 || weight > length()) {
            return OUTSIDE;
        }
        int many = 0;
        for (int leader : allLeaders()) {
            many += leader != NONE && weight(leader) == weight ? 1 : 0;
        }
        return many;
    }

    int better(int row, int word) {
        if (none()) {
            return STATE;
        }
        if (row < 0 || row >= rows.length || !isWord(word)) {
            return OUTSIDE;
        }
        String[] others = rows.clone();
        StringBuilder signs = new StringBuilder();
        for (int place = 0; place < length(); place++) {
            signs.append(has(word, place) ? '1' : '0');
        }
        others[row] = signs.toString();
        int now = distanceBy(rows);
        int then = distanceBy(others);
        return (then == NONE ? length() + 1 : then) - (now == NONE ? length() + 1 : now);
    }

    private int flips(int x, int y) {
        return leaderOf(syndromeBy(rows, x) ^ syndromeBy(rows, y));
    }

    private int verdict(int x, int y) {
        boolean right = flips(x, y) == (x ^ y);
        boolean trusted = weight(flips(x, y)) <= sure();
        return right ? trusted ? 0 : 1 : trusted ? 3 : 2;
    }

    private int sendPlain(int x, int y) {
        int verdict = verdict(x, y);
        counts[1 + verdict]++;
        counts[5] += length() + rank();
        counts[6] += length() + length();
        return verdict;
    }

    int send(int x, int y) {
        if (none()) {
            return STATE;
        }
        return isWord(x) && isWord(y) ? sendPlain(x, y) : OUTSIDE;
    }

    int plain(int x, int y, int what) {
        if (none()) {
            return STATE;
        }
        if (!isWord(x) || !isWord(y) || what < 0 || what > 2) {
            return OUTSIDE;
        }
        return what == 0 ? verdict(x, y) : what == 1 ? flips(x, y) : x ^ flips(x, y);
    }

    private boolean areSets(int one, int other) {
        return isWord(one) && isWord(other) && (one & other) == 0;
    }

    private boolean enough(int one, int other) {
        for (int syndrome = 0; syndrome < syndromes(); syndrome++) {
            boolean[] seen = new boolean[words()];
            for (int word : cosetOf(syndrome)) {
                int bits = word & (one | other);
                if (seen[bits]) {
                    return false;
                }
                seen[bits] = true;
            }
        }
        return true;
    }

    int share(int one, int other, int what) {
        if (none()) {
            return STATE;
        }
        if (!areSets(one, other) || what < 0 || what > 1) {
            return OUTSIDE;
        }
        return what == 0 ? enough(one, other) ? 1 : 0 : 2 * rank() + weight(one) + weight(other);
    }

    /** The second word is looked for by itself here, by its own syndrome and its own bits. */
    int shared(int one, int other, int x, int y, boolean second) {
        if (none()) {
            return STATE;
        }
        if (!areSets(one, other) || !isWord(x) || !isWord(y)) {
            return OUTSIDE;
        }
        if (!enough(one, other)) {
            return NONE;
        }
        int flips = flips(x, y);
        for (int word : cosetOf(syndromeBy(rows, second ? y : x))) {
            boolean fits = true;
            for (int place = 0; place < length(); place++) {
                boolean flipped = has(flips, place);
                if (has(one, place)) {
                    fits &= has(word, place) == (has(x, place) ^ (second && flipped));
                }
                if (has(other, place)) {
                    fits &= has(word, place) == (has(y, place) ^ (!second && flipped));
                }
            }
            if (fits) {
                return word;
            }
        }
        return NONE;
    }

    private int draw(int below) {
        seed = (1103515245L * seed + 12345L) % 2147483648L;
        return (int) (seed / 65536 % below);
    }

    int run(int start, int n, int k) {
        if (none()) {
            return STATE;
        }
        if (start < 0 || n < 1 || n > 50 || k < 0 || k > 16) {
            return OUTSIDE;
        }
        seed = start;
        int wrong = 0;
        for (int i = 0; i < n; i++) {
            int x = draw(words());
            int y = x;
            for (int place = 0; place < length(); place++) {
                if (draw(16) < k) {
                    y ^= 1 << place;
                }
            }
            wrong += sendPlain(x, y) == 3 ? 1 : 0;
        }
        return wrong;
    }

    int seed() {
        return (int) seed;
    }

    int count(int what) {
        if (what < 0 || what > 7) {
            return OUTSIDE;
        }
        return what == 0 ? page.length() : counts[what];
    }

    long digest() {
        long h = 1667;
        if (!none()) {
            for (int what = 0; what <= 6; what++) {
                h = 31 * h + code(what);
            }
            for (int row = 0; row < rows.length; row++) {
                h = 31 * h + row(row);
            }
            for (int leader : allLeaders()) {
                h = 31 * h + leader;
            }
            for (int weight = 0; weight <= length(); weight++) {
                h = 31 * h + leaders(weight);
            }
        }
        h = 31 * h + seed;
        for (char letter : page.toCharArray()) {
            h = 31 * h + letter;
        }
        for (int what = 0; what <= 7; what++) {
            h = 31 * h + count(what);
        }
        return h;
    }
}
