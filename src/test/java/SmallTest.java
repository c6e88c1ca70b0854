import java.util.ArrayList;
import java.util.List;

/** All short texts and schemes of a few signs, on BothEnds and on Naive: each answer must be the same. */
public final class SmallTest extends Check {
    private static final int LONGEST_TEXT = 7;
    private static final int LONGEST_SCHEME = 7;
    private static final String[] PATTERNS = {"a", "b", "ab", "aa", "bab", "abba", "c", "aca"};
    private static final String[] SCHEMES = {"0 0 1;", "0 1 1;", "01 00 01;10 01 01;", "01 00 12;10 00 02;", "102 000 012;"};

    private static List<String> all(String signs, int length) {
        List<String> now = List.of("");
        for (int i = 0; i < length; i++) {
            List<String> longer = new ArrayList<>();
            for (String s : now) for (char c : signs.toCharArray()) longer.add(s + c);
            now = longer;
        }
        return now;
    }

    private static int[] numbers(String bytes, int from) {
        int[] numbers = new int[5];
        for (int k = 0; k < 20; k++) {
            int sign = from + k < bytes.length() ? bytes.charAt(from + k) : 0;
            numbers[k / 4] = numbers[k / 4] << 8 | sign;
        }
        return numbers;
    }

    private static void feedBoth(BothEnds x, Naive y, String bytes) {
        for (int i = 0; i < bytes.length(); i += 20) {
            int[] n = numbers(bytes, i);
            x.feed(n[0], n[1], n[2], n[3], n[4]);
            y.feed(n[0], n[1], n[2], n[3], n[4]);
        }
    }

    private static void schemes() {
        for (int length = 1; length <= LONGEST_SCHEME; length++) {
            for (String s : all("01 ;x", length)) scheme(s);
        }
        for (String ahead : new String[] {"0 0 0;", "01 00 01;", "01 00 ", "10 01 ", "0 0 0;".repeat(8), "210 001 "}) {
            for (int length = 1; length < LONGEST_SCHEME - 2; length++) {
                for (String s : all("0145 ;|", length)) scheme(ahead + s);
            }
        }
        for (int length = 1; length <= 5; length++) {
            for (String s : all("012345", length)) {
                scheme(s + " " + "0".repeat(length) + " " + "1".repeat(length) + ";");
            }
        }
    }

    private static void scheme(String s) {
        BothEnds x = new BothEnds();
        Naive y = new Naive();
        feedBoth(x, y, s);
        int n = s.length();
        due("scheme " + s, x.scheme(n), y.scheme(n));
        due("fault of " + s, x.fault(), y.fault());
        for (int what = 9; what <= 12; what++) due("told " + what + " behind " + s, x.told(what), y.told(what));
        for (int what = 0; what < 3; what++) due("shares " + what + " of " + s, x.shares(what), y.shares(what));
        due("needless of " + s, x.needless(), y.needless());
        due("sound of " + s, x.sound(), y.sound());
    }

    private static void texts() {
        for (int length = 1; length <= LONGEST_TEXT; length++) {
            for (String s : all("ab|", length)) text(s);
        }
        for (String s : all("abc|", 5)) text(s);
    }

    private static void text(String s) {
        BothEnds x = new BothEnds();
        Naive y = new Naive();
        feedBoth(x, y, s);
        int told = y.text(s.length());
        due("text " + s, x.text(s.length()), told);
        if (told != 0) return;
        rows(s, x, y);
        strings(s, x, y);
        cursor(s);
        searches(s);
    }

    private static void rows(String s, BothEnds x, Naive y) {
        for (int side = 0; side < 2; side++) {
            for (int row = 0; row <= s.length(); row++) {
                for (int what = 0; what < 7; what++) due(s + " row", x.row(side, row, what), y.row(side, row, what));
                due(s + " rowOf", x.rowOf(side, row), y.rowOf(side, row));
            }
            for (int letter = 'a'; letter <= 'c'; letter++) {
                due(s + " count", x.count(side, s.length() + 1, letter), y.count(side, s.length() + 1, letter));
            }
            due(s + " print", x.print(side), y.print(side));
        }
    }

    private static void strings(String s, BothEnds x, Naive y) {
        for (int place = 0; place <= s.length(); place++) {
            due(s + " unique", x.unique(place), y.unique(place));
            for (int what = 0; what < 2; what++) due(s + " around", x.around(place, what), y.around(place, what));
        }
        for (int length = 1; length <= s.length() + 1; length++) due(s + " strings", x.strings(length), y.strings(length));
        for (int what = 0; what < 3; what++) due(s + " repeat", x.repeat(what), y.repeat(what));
        for (int what = 0; what < 2; what++) due(s + " common", x.common(what), y.common(what));
        for (int least = 1; least <= 2; least++) {
            for (int often = 2; often <= 3; often++) {
                int many = y.maximals(least, often);
                due(s + " maximals", x.maximals(least, often), many);
                for (int k = 0; k < many; k++) {
                    for (int what = 0; what < 3; what++) {
                        due(s + " maximal", x.maximal(k, least, often, what), y.maximal(k, least, often, what));
                    }
                }
            }
        }
    }

    // All cursors of up to three letters, each grown by all ways of left and right.
    private static void cursor(String s) {
        for (String way : all("ABab", 3)) {
            BothEnds x = new BothEnds();
            Naive y = new Naive();
            feedBoth(x, y, s);
            x.text(s.length());
            y.text(s.length());
            for (char c : way.toCharArray()) {
                int what = c < 'a' ? 0 : 1;
                due(s + " grow " + way, x.grow(Character.toLowerCase(c), what), y.grow(Character.toLowerCase(c), what));
                for (int w = 4; w <= 7; w++) due(s + " told " + w + " of " + way, x.told(w), y.told(w));
                for (int w = 0; w < 4; w++) due(s + " hits " + w + " of " + way, x.hits(w), y.hits(w));
                for (int w = 0; w < 2; w++) due(s + " grows " + w + " of " + way, x.grows(w), y.grows(w));
                due(s + " first letter", y.told(4) == 0 ? 0 : x.letter(0), y.told(4) == 0 ? 0 : y.letter(0));
                for (int k = 0; k < y.told(7); k++) {
                    for (int w = 0; w < 3; w++) due(s + " hit", x.hit(k, w), y.hit(k, w));
                }
            }
            for (int d = 0; d < y.told(1); d++) {
                for (int w = 0; w < 3; w++) due(s + " document", x.document(d, w), y.document(d, w));
            }
            for (int i = 0; i < 4; i++) {
                due(s + " shrink", x.shrink(), y.shrink());
                due(s + " low of side 1", x.told(6), y.told(6));
            }
        }
    }

    private static void searches(String s) {
        for (String scheme : SCHEMES) {
            BothEnds x = new BothEnds();
            Naive y = new Naive();
            feedBoth(x, y, s);
            x.text(s.length());
            y.text(s.length());
            feedBoth(x, y, scheme);
            x.scheme(scheme.length());
            y.scheme(scheme.length());
            for (String pattern : PATTERNS) {
                feedBoth(x, y, pattern);
                due(s + " often " + pattern, x.often(pattern.length()), y.often(pattern.length()));
                if (pattern.length() >= y.told(10)) {
                    due(s + " search " + pattern, x.search(pattern.length()), y.search(pattern.length()));
                    result(s + " " + scheme + " " + pattern, x, y);
                    feedBoth(x, y, pattern);
                }
                int many = y.matches(pattern.length(), 1);
                due(s + " matches " + pattern, x.matches(pattern.length(), 1), many);
                for (int k = 0; k < many; k++) {
                    for (int what = 0; what < 4; what++) due(s + " match", x.match(k, what), y.match(k, what));
                }
            }
        }
    }

    private static void result(String of, BothEnds x, Naive y) {
        for (int what = 0; what < 5; what++) due("result " + what + " of " + of, x.result(what), y.result(what));
        for (int k = 0; k < y.told(13); k++) {
            for (int what = 0; what < 4; what++) due("found " + what + " of " + of, x.found(k, what), y.found(k, what));
        }
        for (int search = 0; search < y.told(9); search++) {
            for (int what = 0; what < 2; what++) due("ran of " + of, x.ran(search, what), y.ran(search, what));
        }
    }

    public static void main(String[] args) {
        schemes();
        texts();
        end("SmallTest");
    }
}
