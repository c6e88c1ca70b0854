import java.util.NoSuchElementException;

/** What the written tests share: answers that are due, refusals that are due, and a tape fed with a text. */
abstract class Check {
    protected static final Class<?> MISSING = NoSuchElementException.class;
    protected static final Class<?> ARGUMENT = IllegalArgumentException.class;
    protected static final Class<?> STATE = IllegalStateException.class;
    private static int wrong;
    private static int cases;
    private static String sentence = "";

    /** The document's sentence that the cases from here on hold to. */
    protected static void sentence(String words) {
        sentence = words + ": ";
    }

    protected static void due(String call, long got, long want) {
        cases++;
        if (got != want) {
            wrong++;
            System.out.println(sentence + call + " answered " + got + ", due is " + want);
        }
    }

    protected static void due(String call, boolean got, boolean want) {
        due(call, got ? 1 : 0, want ? 1 : 0);
    }

    protected static void same(String call, String got, String want) {
        cases++;
        if (!got.equals(want)) {
            wrong++;
            System.out.println(sentence + call + ": " + got + ", due is " + want);
        }
    }

    protected static Class<?> thrownBy(Runnable run) {
        try {
            run.run();
        } catch (RuntimeException e) {
            return e.getClass();
        }
        return null;
    }

    protected static void refuses(String call, Class<?> reason, Runnable run) {
        cases++;
        Class<?> thrown = thrownBy(run);
        if (thrown != reason) {
            wrong++;
            System.out.println(sentence + call + " threw " + thrown + ", due is " + reason);
        }
    }

    protected interface OfNumber {
        void run(int number);
    }

    /** The same call with each of several numbers is refused for the same reason. */
    protected static void refusesEach(String call, Class<?> reason, OfNumber run, int... numbers) {
        for (int number : numbers) refuses(call + " of " + number, reason, () -> run.run(number));
    }

    protected static void feed(BothEnds x, String bytes) {
        for (int i = 0; i < bytes.length(); i += 20) {
            int[] numbers = new int[5];
            for (int k = 0; k < 20; k++) {
                int sign = i + k < bytes.length() ? bytes.charAt(i + k) : 0;
                numbers[k / 4] = numbers[k / 4] << 8 | sign;
            }
            x.feed(numbers[0], numbers[1], numbers[2], numbers[3], numbers[4]);
        }
    }

    protected static int text(BothEnds x, String text) {
        feed(x, text);
        return x.text(text.length());
    }

    protected static BothEnds on(String text) {
        BothEnds x = new BothEnds();
        due("text " + text, text(x, text), 0);
        return x;
    }

    protected static int scheme(BothEnds x, String scheme) {
        feed(x, scheme);
        return x.scheme(scheme.length());
    }

    protected static int search(BothEnds x, String pattern) {
        feed(x, pattern);
        return x.search(pattern.length());
    }

    protected static int matches(BothEnds x, String letters, int least) {
        feed(x, letters);
        return x.matches(letters.length(), least);
    }

    protected static BothEnds grow(BothEnds x, String letters) {
        for (int i = 0; i < letters.length(); i++) x.grow(letters.charAt(i), 1);
        return x;
    }

    protected static void empty(BothEnds x) {
        if (x.told(12) > 0) x.scheme(1);
    }

    protected static void end(String name) {
        System.out.println(name + ": " + cases + " cases, " + wrong + " wrong");
        if (wrong > 0) System.exit(1);
    }
}
