/** Objects as a test finds them: with letters on THE PAGE, or with SUMS read. */
final class Given {
    private Given() {
    }

    static void write(CosetGauges x, String text) {
        for (int i = 0; i < text.length(); i++) {
            x.letter(text.charAt(i));
        }
    }

    static CosetGauges page(String text) {
        CosetGauges x = new CosetGauges();
        write(x, text);
        return x;
    }

    static CosetGauges sums(String text) {
        CosetGauges x = page(text);
        int length = (text + "/").indexOf('/');
        int got = x.sums();
        if (got != length) {
            throw new IllegalStateException("sums() of " + text + " answered " + got + ", due is " + length);
        }
        return x;
    }
}
