import java.util.ArrayList;
import java.util.Arrays;
import java.util.List;

/**
 * One object and its calls. It counts the refusals that are due, and never asks more than 512 calls, for what
 * later ones answer is free.
 */
final class Run {
    private static final int MOST_CALLS = 512;
    private static final int COUNTS = 6;
    private static final long[] NEITHER_0_NOR_1 = {-1, 2, Integer.MIN_VALUE, Integer.MAX_VALUE};
    private static final List<Run> MADE = new ArrayList<>();

    private final GlassJar x = new GlassJar();
    private final int[] refusals = new int[COUNTS + 1];
    private int calls = 0;
    private int men = 0;

    Run() {
        MADE.add(this);
    }

    /** Both jars unshaken and drawn from the top: the NUMBER of each DAY is the DAY and 1. */
    static Run plain() {
        return new Run().due(1, "jar", 0, 1, 0, 0, 1).due(1, "jar", 1, 1, 0, 0, 1);
    }

    long ask(String name, long... a) {
        if (calls == MOST_CALLS) {
            throw new IllegalStateException("a test asks more than 512 calls of one object");
        }
        calls++;
        return Calls.call(x, name, a);
    }

    int callsLeft() {
        return MOST_CALLS - calls;
    }

    /** An answer that counts no refusal, be it below 0 or not. */
    Run due(long want, String name, long... a) {
        Due.due(name + Arrays.toString(a), ask(name, a), want);
        return this;
    }

    /** A refusal in the form of that call; it is counted. */
    Run refused(int number, String name, long... a) {
        due(Calls.refusal(name, number), name, a);
        refusals[-number]++;
        return this;
    }

    /** Both parts of a fraction; the year, if the call has one, stands last in a. */
    Run fraction(long above, long below, String name, long... a) {
        long[] asked = Arrays.copyOf(a, a.length + 1);
        due(above, name, asked);
        asked[a.length] = 1;
        return due(below, name, asked);
    }

    /** No such JAR, each time in the first argument's place. */
    Run refusedJars(String name, long... a) {
        return refusedEach(-1, 0, name, a);
    }

    /** No such part, each time in the last argument's place. */
    Run refusedParts(String name, long... a) {
        return refusedEach(-2, a.length - 1, name, a);
    }

    private Run refusedEach(int number, int place, String name, long[] a) {
        for (long value : NEITHER_0_NOR_1) {
            long[] asked = a.clone();
            asked[place] = value;
            refused(number, name, asked);
        }
        return this;
    }

    /** So many men of one text. */
    Run same(int many, String text) {
        for (int i = 0; i < many; i++) {
            man(text);
        }
        return this;
    }

    Run noFraction(String name, long... a) {
        long[] asked = Arrays.copyOf(a, a.length + 1);
        refused(-3, name, asked);
        asked[a.length] = 1;
        return refused(-3, name, asked);
    }

    /** A text comes by as few calls as it can. */
    Run feed(String text) {
        for (int from = 0; from < text.length(); from += 8) {
            int n = Math.min(8, text.length() - from);
            ask("feed", n, Calls.bytes(text.substring(from, from + n)));
        }
        return this;
    }

    /** A text that becomes the next man. */
    Run man(String text) {
        feed(text).due(men, "man");
        men++;
        return this;
    }

    Run men(String... texts) {
        for (String text : texts) {
            man(text);
        }
        return this;
    }

    Run fault(String text, int place) {
        feed(text);
        Due.due("man() of '" + text + "'", ask("man"), -20 - place);
        return this;
    }

    private void countsAreDue() {
        for (int i = 1; i <= COUNTS && callsLeft() > 0; i++) {
            Due.due("refusals -" + i + ": count(" + (10 + i) + ")", ask("count", 10 + i), refusals[i]);
        }
    }

    /** Looks at the counts of all objects made since it was asked last. */
    static void allCountsAreDue() {
        for (Run run : MADE) {
            run.countsAreDue();
        }
        MADE.clear();
    }
}
