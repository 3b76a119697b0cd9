import java.util.function.IntUnaryOperator;

/** Looks at both ends of a range of numbers that a call takes, and at what lies next to them. */
final class Edges {
    private static final int OUTSIDE = -1002;

    private Edges() {
    }

    /** In the call's name the number that is looked at is told by "?". */
    static void range(Due due, CosetGauges x, String call, IntUnaryOperator answer, int least, int greatest) {
        long before = x.digest();
        for (int number : new int[] {Integer.MIN_VALUE, least - 1, greatest + 1, Integer.MAX_VALUE}) {
            if (number < least || number > greatest) {
                String told = told(call, number);
                due.is(told, answer.applyAsInt(number), OUTSIDE);
                due.is("digest() behind " + told, x.digest(), before);
            }
        }
        for (int number : new int[] {least, greatest}) {
            due.holds(told(call, number) + " is not OUTSIDE", answer.applyAsInt(number) != OUTSIDE);
        }
    }

    private static String told(String call, int number) {
        return call.replace("?", Integer.toString(number));
    }
}
