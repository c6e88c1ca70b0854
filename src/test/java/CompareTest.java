import java.lang.reflect.InvocationTargetException;
import java.lang.reflect.Method;
import java.util.ArrayList;
import java.util.Comparator;
import java.util.List;
import java.util.Map;
import java.util.Random;

/** Random runs of calls, always the same ones, on BothEnds and on Naive: each answer must be the same. */
public final class CompareTest {
    private static final int CALLS = 512;

    private final Random random;
    private final BothEnds ends = new BothEnds();
    private final Naive naive = new Naive();
    private final List<String> log = new ArrayList<>();
    private final int longest;
    private static final List<Method> METHODS = methods();

    private CompareTest(long seed, int longest) {
        random = new Random(seed);
        this.longest = longest;
    }

    private static List<Method> methods() {
        List<Method> all = new ArrayList<>(List.of(BothEnds.class.getDeclaredMethods()));
        all.removeIf(m -> !java.lang.reflect.Modifier.isPublic(m.getModifiers()));
        all.sort(Comparator.comparing(Method::getName));
        return all;
    }

    private static Object answer(Object on, String name, Object[] arguments) {
        Class<?>[] types = new Class<?>[arguments.length];
        java.util.Arrays.fill(types, int.class);
        try {
            return on.getClass().getMethod(name, types).invoke(on, arguments);
        } catch (InvocationTargetException e) {
            return e.getCause().getClass().getName();
        } catch (ReflectiveOperationException e) {
            throw new AssertionError(e);
        }
    }

    private Object call(String name, Object... arguments) {
        Object due = answer(naive, name, arguments);
        Object got = answer(ends, name, arguments);
        String line = name + java.util.Arrays.toString(arguments) + " -> " + got;
        log.add(line);
        if (!due.equals(got)) {
            int from = Math.max(0, log.size() - 60);
            for (String entry : log.subList(from, log.size())) System.out.println("  " + entry);
            System.out.println("  due is " + due);
            throw new AssertionError(line + ", due is " + due);
        }
        return got;
    }

    private int upTo(int most) {
        return random.nextInt(most + 1);
    }

    private void feedAll(String s) {
        for (int i = 0; i < s.length(); i += 20) {
            Object[] numbers = new Object[5];
            for (int k = 0; k < 5; k++) {
                int number = 0;
                for (int b = 0; b < 4; b++) {
                    int at = i + 4 * k + b;
                    number = number << 8 | (at < s.length() ? s.charAt(at) : random.nextInt(256));
                }
                numbers[k] = number;
            }
            call("feed", numbers);
        }
    }

    private void emptyTape() {
        if ((Integer) call("told", 12) > 0) call("scheme", 1);
    }

    private String someText() {
        int length = 1 + upTo(random.nextInt(4) == 0 ? longest - 1 : Math.min(longest, 40) - 1);
        int letters = 1 + random.nextInt(random.nextBoolean() ? 3 : 8);
        int bars = random.nextInt(4) == 0 ? 0 : 2 + random.nextInt(12);
        StringBuilder s = new StringBuilder();
        while (s.length() < length) {
            int kind = random.nextInt(20);
            if (bars > 0 && random.nextInt(bars + 1) == 0 && s.length() > 0 && s.charAt(s.length() - 1) != '|') {
                s.append('|');
            } else if (kind == 0 && s.length() > 3) {
                int from = random.nextInt(s.length());
                s.append(s, from, from + random.nextInt(s.length() - from) + 1);
                if (s.toString().contains("||")) s.deleteCharAt(s.indexOf("||"));
            } else {
                s.append((char) ('a' + random.nextInt(letters)));
            }
        }
        s.setLength(length);
        if (s.charAt(length - 1) == '|') s.setCharAt(length - 1, 'a');
        if (random.nextInt(8) == 0) s.setCharAt(random.nextInt(length), "|`i{}".charAt(random.nextInt(5)));
        return s.toString();
    }

    private String blanks(int least) {
        return " ".repeat(random.nextInt(4) == 0 ? least + random.nextInt(3) : least);
    }

    private String someScheme() {
        int parts = 1 + random.nextInt(5);
        int searches = 1 + random.nextInt(random.nextInt(5) == 0 ? 9 : 4);
        StringBuilder s = new StringBuilder();
        for (int i = 0; i < searches; i++) {
            int low = random.nextInt(parts);
            int high = low;
            StringBuilder order = new StringBuilder().append(low);
            while (high - low + 1 < parts) {
                boolean down = low > 0 && (high == parts - 1 || random.nextBoolean());
                order.append(down ? --low : ++high);
            }
            int l = 0;
            int m = 0;
            StringBuilder least = new StringBuilder();
            StringBuilder most = new StringBuilder();
            for (int k = 0; k < parts; k++) {
                if (random.nextInt(4) == 0 && l < 4) l++;
                m = Math.max(m, l);
                if (random.nextInt(2) == 0 && m < 4) m++;
                least.append(l);
                most.append(m);
            }
            s.append(blanks(0)).append(order).append(blanks(1)).append(least).append(blanks(1)).append(most);
            s.append(blanks(0)).append(';');
        }
        s.append(blanks(0));
        for (int i = random.nextInt(3) == 0 ? 1 + random.nextInt(3) : 0; i > 0; i--) spoil(s);
        return s.length() > 240 ? s.substring(0, 240) : s.length() == 0 ? " " : s.toString();
    }

    private void spoil(StringBuilder s) {
        if (s.length() == 0) return;
        int at = random.nextInt(s.length());
        String signs = "0123456789 ; ;x/:012";
        char sign = signs.charAt(random.nextInt(signs.length()));
        switch (random.nextInt(4)) {
            case 0: s.deleteCharAt(at); break;
            case 1: s.insert(at, sign); break;
            case 2: s.setCharAt(at, sign); break;
            default: if (random.nextBoolean()) s.setLength(at + 1); else s.insert(at, "01234567".substring(upTo(7))); break;
        }
    }

    private String somePattern(String text, int most) {
        int length = 1 + random.nextInt(random.nextInt(3) == 0 ? most : 9);
        StringBuilder s = new StringBuilder();
        if (random.nextInt(4) > 0) {
            String[] documents = text.split("\\|");
            String letters = documents[random.nextInt(documents.length)];
            length = Math.min(length, 2 + letters.length());
            int from = random.nextInt(Math.max(1, letters.length() - length + 1));
            s.append(letters, from, Math.min(letters.length(), from + length));
        }
        while (s.length() < length) s.append((char) ('a' + random.nextInt(random.nextBoolean() ? 2 : 8)));
        for (int i = random.nextInt(4); i > 0; i--) s.setCharAt(random.nextInt(length), (char) ('a' + random.nextInt(4)));
        if (random.nextInt(20) == 0) s.setCharAt(random.nextInt(length), '|');
        return s.toString();
    }

    private String nowText() {
        StringBuilder s = new StringBuilder();
        int n = (Integer) answer(naive, "told", new Object[] {0});
        for (int i = 0; i < n; i++) s.append((char) (int) (Integer) answer(naive, "sign", new Object[] {i}));
        return s.toString();
    }

    // The greatest "what" of each call that ends with one.
    private static final Map<String, Integer> WHATS = Map.ofEntries(
            Map.entry("told", 13), Map.entry("row", 6), Map.entry("grows", 1), Map.entry("hit", 2),
            Map.entry("hits", 3), Map.entry("shares", 2), Map.entry("digit", 2), Map.entry("found", 3),
            Map.entry("result", 4), Map.entry("ran", 1), Map.entry("match", 3), Map.entry("maximal", 2),
            Map.entry("repeat", 2), Map.entry("around", 1), Map.entry("common", 1), Map.entry("document", 2),
            Map.entry("status", 2), Map.entry("grow", 1));

    // Mostly within what the call takes, now and then a little or far off.
    private int someNumber(String name, int index, int last) {
        if (random.nextInt(80) == 0) return new int[] {Integer.MIN_VALUE, Integer.MAX_VALUE, -1, 240, 241, 242}[random.nextInt(6)];
        if (index == last && WHATS.containsKey(name)) return upTo(WHATS.get(name) + (random.nextInt(20) == 0 ? 1 : 0));
        if (name.equals("grow") || name.equals("count") && index == 2) return 96 + random.nextInt(random.nextBoolean() ? 4 : 10);
        if (name.equals("maximals") || name.equals("maximal") && index > 0) {
            return index == last - (name.equals("maximal") ? 1 : 0) ? 1 + upTo(4) : upTo(4);
        }
        if (List.of("row", "rowOf", "count", "print").contains(name) && index == 0) return upTo(random.nextInt(9) == 0 ? 2 : 1);
        if (name.equals("step")) return upTo(17);
        if (name.equals("strings")) return upTo(6);
        if (List.of("digit", "ran", "document", "letter", "found", "match", "maximal").contains(name)) return upTo(random.nextBoolean() ? 2 : 6);
        return upTo(random.nextBoolean() ? (Integer) answer(naive, "told", new Object[] {0}) + 2 : 6);
    }

    private void someCall() {
        Method method = METHODS.get(random.nextInt(METHODS.size()));
        String name = method.getName();
        Object[] arguments = new Object[method.getParameterCount()];
        for (int i = 0; i < arguments.length; i++) arguments[i] = someNumber(name, i, arguments.length - 1);
        if (arguments.length > 1 && List.of("row", "rowOf", "count").contains(name)) {
            arguments[1] = random.nextInt(50) == 0 ? -1 : upTo((Integer) answer(naive, "told", new Object[] {0}) + 2);
        }
        if (name.equals("text") && random.nextInt(4) > 0) return;
        call(name, arguments);
    }

    private void growMany() {
        boolean far = random.nextInt(5) == 0;
        for (int i = far ? 43 : random.nextInt(8); i > 0; i--) {
            int what = random.nextInt(2);
            int bits = (Integer) call("grows", what);
            int letter = random.nextInt(8);
            for (int k = 0; k < 8 && bits != 0 && (bits >> letter & 1) == 0 && (far || i % 4 > 0); k++) letter = (letter + 1) % 8;
            call("grow", 97 + letter, what);
            if (random.nextInt(12) == 0) call("shrink");
        }
    }

    private void lookAtResult() {
        int size = Math.max(0, (Integer) call("told", 13));
        for (int what = 0; what < 5; what++) call("result", what);
        for (int i = 0; i < 3; i++) call("found", upTo(size), upTo(3));
        for (int i = 0; i < 4; i++) call("ran", upTo((Integer) call("told", 9)), upTo(1));
    }

    private void someStory() {
        switch (log.isEmpty() ? 0 : random.nextInt(13)) {
            case 8: {
                for (int i = random.nextInt(14); i > 0; i--) feedAll(somePattern(nowText(), 20));
                break;
            }
            case 0: {
                emptyTape();
                String s = someText();
                feedAll(s);
                if (random.nextInt(5) == 0) call("often", upTo(s.length()));
                call("text", s.length());
                break;
            }
            case 1: case 2: {
                emptyTape();
                String s = someScheme();
                feedAll(s);
                call("scheme", s.length());
                call("fault");
                for (int what = 0; what < 3; what++) call("shares", what);
                call("sound");
                call("needless");
                break;
            }
            case 3: case 4: {
                emptyTape();
                String s = somePattern(nowText(), 26);
                feedAll(s);
                call("often", Math.min(s.length(), 1 + random.nextInt(5)));
                call("search", s.length());
                lookAtResult();
                break;
            }
            case 5: {
                emptyTape();
                String s = somePattern(nowText(), 60);
                feedAll(s);
                int size = 0;
                if (call("matches", s.length(), 1 + random.nextInt(3)) instanceof Integer many) size = many;
                for (int i = 0; i < 6; i++) call("match", upTo(size), upTo(3));
                break;
            }
            case 6: growMany(); break;
            case 7: {
                int k = upTo(Math.max(1, (Integer) call("told", 7)));
                for (int what = 0; what < 3; what++) call("hit", k, what);
                for (int what = 0; what < 4; what++) call("hits", what);
                for (int what = 5; what < 8; what++) call("told", what);
                break;
            }
            default: for (int i = 0; i < 12; i++) someCall(); break;
        }
    }

    private int run() {
        while (log.size() < CALLS - 40) someStory();
        return log.size();
    }

    public static void main(String[] args) {
        long calls = 0;
        int wrong = 0;
        for (int seed = 0; seed < 700; seed++) {
            try {
                calls += new CompareTest(seed, seed % 40 == 0 ? 240 : 60).run();
            } catch (AssertionError e) {
                wrong++;
                System.out.println("run " + seed + ": " + e.getMessage());
            }
        }
        System.out.println("CompareTest: " + calls + " calls compared, " + wrong + " runs wrong");
        if (wrong > 0) System.exit(1);
    }
}
