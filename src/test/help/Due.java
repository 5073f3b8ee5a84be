import java.util.function.Supplier;
import java.util.function.ToLongFunction;

/** What the project's tests share. They extend it, as nothing can be imported from a class without a package. */
abstract class Due {
    static final int MIN = Integer.MIN_VALUE;
    static final int MAX = Integer.MAX_VALUE;
    private static final int MOST_TOLD = 40;
    private static final long LONGS = 4000000000000000000L;
    private static int wrong = 0;
    private static String part = "";

    /** A call on an object. */
    interface Call extends ToLongFunction<DraughtsTake> {
    }

    static void part(String name) {
        part = name;
    }

    static void due(String what, long got, long want) {
        if (got != want) {
            wrong++;
        }
        if (got != want && wrong <= MOST_TOLD) {
            System.out.println(part + ", " + what + ": answered " + got + ", due is " + want);
        }
    }

    static void end(String allIsWell) {
        System.out.println(wrong == 0 ? allIsWell : wrong + " answers are not as due");
        if (wrong != 0) {
            System.exit(1);
        }
    }

    static int bits(float w) {
        return Float.floatToRawIntBits(w);
    }

    static float hold(float w) {
        return w > 100f ? 100f : w < -100f ? -100f : w;
    }

    static String two(int n) {
        return n < 10 ? "0" + n : "" + n;
    }

    static void feed(DraughtsTake x, String text) {
        for (int k = 0; k < text.length(); k++) {
            x.feed(text.charAt(k));
        }
    }

    static int tell(DraughtsTake x, String text) {
        feed(x, text);
        return x.house();
    }

    /** A new object with a house that has no fault. */
    static DraughtsTake told(String text) {
        DraughtsTake x = new DraughtsTake();
        due("house " + text, tell(x, text), text.chars().filter(c -> c == ';').count());
        return x;
    }

    static void rows(DraughtsTake x, int... numbers) {
        x.clear();
        for (int n : numbers) {
            x.row(n);
        }
    }

    static void goOn(DraughtsTake x, int turns) {
        for (int left = turns; left > 0; left -= 60) {
            x.turns(Math.min(left, 60));
        }
    }

    /** The calls are refused with a number: that is answered, it is counted once if it is above -10, and nothing else changes. */
    static void no(Supplier<DraughtsTake> made, int number, Call... calls) {
        for (int k = 0; k < calls.length; k++) {
            changesOnlyACount(made, calls[k], "refusal " + k + " with " + number, number, number > -10 ? number : 0);
        }
    }

    /** The calls answer a number, which is no refusal, and nothing changes. */
    static void only(Supplier<DraughtsTake> made, long number, Call... calls) {
        for (int k = 0; k < calls.length; k++) {
            changesOnlyACount(made, calls[k], "call " + k + " for " + number, number, 0);
        }
    }

    /** The calls are not refused. */
    static void yes(Supplier<DraughtsTake> made, Call... calls) {
        for (int k = 0; k < calls.length; k++) {
            DraughtsTake x = made.get();
            int[] were = refusals(x);
            calls[k].applyAsLong(x);
            countsAre("call " + k, x, were, 0);
        }
    }

    private static void changesOnlyACount(Supplier<DraughtsTake> made, Call call, String name, long answer, int counted) {
        DraughtsTake x = made.get();
        int[] were = refusals(x);
        long got = call.applyAsLong(x);
        due(name, got > LONGS ? LONGS - got : got, answer);
        countsAre(name, x, were, counted);
        String seen = Look.at(x);
        String want = Look.at(made.get());
        due(name + ", what it left: " + seen + "instead of: " + want, seen.equals(want) ? 0 : 1, 0);
    }

    private static int[] refusals(DraughtsTake x) {
        int[] counts = new int[6];
        for (int k = 0; k < 6; k++) {
            counts[k] = x.count(11 + k);
        }
        return counts;
    }

    private static void countsAre(String name, DraughtsTake x, int[] were, int counted) {
        for (int k = 0; k < 6; k++) {
            due(name + ", refusals with " + (-1 - k), x.count(11 + k) - were[k], counted == -1 - k ? 1 : 0);
        }
    }
}
