import java.util.LinkedHashMap;
import java.util.Map;
import java.util.function.Consumer;

/** A call that is refused changes nothing but its count; a call that asks changes nothing: all that can be told is the same behind it. */
public final class NothingChangesTest extends Check {
    // Everything there can be is there, none of it as in a new object.
    private static BothEnds prepared() {
        BothEnds x = on("abc|ab");
        x.step(3);
        scheme(x, "01 00 01;10 01 01;");
        search(x, "bb");
        matches(x, "cab", 1);
        scheme(x, "0 9");
        x.grow('b', 0);
        x.grow('a', 0);
        thrownBy(() -> x.sign(-1));
        feed(x, "abcab|cababcababcaba");
        return x;
    }

    private static BothEnds with40Letters() {
        BothEnds x = grow(on("a".repeat(41)), "a".repeat(40));
        scheme(x, "01 00 01;");
        search(x, "bb");
        matches(x, "aba", 1);
        feed(x, "aab");
        return x;
    }

    private static void tell(StringBuilder s, String name, long answer) {
        s.append(name).append(' ').append(answer).append(", ");
    }

    private static String told(BothEnds x) {
        StringBuilder s = new StringBuilder();
        for (int what = 0; what <= 13; what++) tell(s, "told", x.told(what));
        int signs = Math.min(7, x.told(0));
        for (int place = 0; place <= signs; place++) {
            tell(s, "sign", x.sign(place));
            for (int side = 0; side < 2; side++) tell(s, "row", x.row(side, place, 0));
        }
        for (int k = 0; k < Math.min(4, x.told(4)); k++) tell(s, "letter", x.letter(k));
        for (int side = 0; side < 2; side++) {
            tell(s, "grows", x.grows(side));
            tell(s, "print", x.print(side));
            tell(s, "common", x.common(side));
            tell(s, "maximals", x.maximals(side + 1, 2));
        }
        for (int what = 0; what < 4; what++) {
            tell(s, "hits", x.hits(what));
            if (what < 3) tell(s, "hit", x.hit(x.told(7) - 1, what));
            tell(s, "match", x.match(0, what));
        }
        for (int what = 0; what < 5; what++) tell(s, "result", x.result(what));
        for (int k = 0; k < Math.min(2, x.told(13)); k++) for (int what = 0; what < 4; what++) tell(s, "found", x.found(k, what));
        for (int search = 0; search < x.told(9); search++) {
            for (int i = 0; i < 6; i++) tell(s, "digit", x.digit(search, i / 3, i % 3));
            for (int what = 0; what < 2; what++) tell(s, "ran", x.ran(search, what));
        }
        tell(s, "fault", x.fault());
        for (int n = 1; n < 3; n++) tell(s, "often", x.often(n));
        return s.toString();
    }

    private static String counts(BothEnds x) {
        return x.status(0) + " " + x.status(1) + " " + x.status(2);
    }

    // The tape can be read only by using it up: its bytes become the text.
    private static String bytes(BothEnds x) {
        int n = x.told(12);
        StringBuilder s = new StringBuilder().append(n).append(':');
        int size = 0;
        while (size < n && thrownByOften(x, size + 1) == null) size++;
        s.append(x.text(size));
        for (int place = 0; place < size; place++) s.append((char) x.sign(place));
        return s.toString();
    }

    private static Class<?> thrownByOften(BothEnds x, int n) {
        return thrownBy(() -> x.often(n));
    }

    private static void refusedChangesNothing(String call, Class<?> reason, BothEnds x, BothEnds twin, Consumer<BothEnds> run) {
        int missing = x.status(0) + (reason == MISSING ? 1 : 0);
        int argument = x.status(1) + (reason == ARGUMENT ? 1 : 0);
        int state = x.status(2) + (reason == STATE ? 1 : 0);
        String before = told(x);
        refuses(call, reason, () -> run.accept(x));
        same("all behind " + call, told(x), before);
        same("counts behind " + call, counts(x), missing + " " + argument + " " + state);
        same("bytes behind " + call, bytes(x), bytes(twin));
    }

    private static void missing(Map<String, Consumer<BothEnds>> calls) {
        calls.put("sign", x -> x.sign(7));
        calls.put("row of no side", x -> x.row(2, 0, 0));
        calls.put("row", x -> x.row(0, 7, 0));
        calls.put("rowOf of no side", x -> x.rowOf(2, 0));
        calls.put("rowOf", x -> x.rowOf(0, 7));
        calls.put("count of no side", x -> x.count(-1, 0, 'a'));
        calls.put("count", x -> x.count(0, 8, 'a'));
        calls.put("letter", x -> x.letter(2));
        calls.put("hit", x -> x.hit(2, 0));
        calls.put("digit of no search", x -> x.digit(2, 0, 0));
        calls.put("digit", x -> x.digit(0, 2, 0));
        calls.put("found", x -> x.found(x.told(13), 0));
        calls.put("ran", x -> x.ran(2, 0));
        calls.put("match", x -> x.match(2, 0));
        calls.put("maximal", x -> x.maximal(9, 1, 2, 0));
        calls.put("unique", x -> x.unique(7));
        calls.put("around", x -> x.around(7, 0));
        calls.put("document", x -> x.document(2, 0));
        calls.put("print", x -> x.print(2));
    }

    private static void wrong(Map<String, Consumer<BothEnds>> calls) {
        calls.put("text of 0", x -> x.text(0));
        calls.put("text of 21", x -> x.text(21));
        calls.put("scheme of 0", x -> x.scheme(0));
        calls.put("scheme of 21", x -> x.scheme(21));
        calls.put("step", x -> x.step(17));
        calls.put("grow by no letter", x -> x.grow('i', 1));
        calls.put("grow to no side", x -> x.grow('c', 2));
        calls.put("told", x -> x.told(14));
        calls.put("row of no what", x -> x.row(0, 0, 7));
        calls.put("count of no letter", x -> x.count(0, 0, '|'));
        calls.put("grows", x -> x.grows(2));
        calls.put("hit of no what", x -> x.hit(0, 3));
        calls.put("hits", x -> x.hits(4));
        calls.put("often of 21", x -> x.often(21));
        calls.put("often of a bar", x -> x.often(6));
        calls.put("shares", x -> x.shares(3));
        calls.put("digit of no what", x -> x.digit(0, 0, 3));
        calls.put("search of too few", x -> x.search(1));
        calls.put("search of too many", x -> x.search(25));
        calls.put("search of a bar", x -> x.search(6));
        calls.put("found of no what", x -> x.found(0, 4));
        calls.put("result", x -> x.result(5));
        calls.put("ran of no what", x -> x.ran(0, 2));
        calls.put("matches of 0", x -> x.matches(0, 1));
        calls.put("matches of a bar", x -> x.matches(6, 1));
        calls.put("matches of no least", x -> x.matches(3, 0));
        calls.put("match of no what", x -> x.match(0, 4));
        calls.put("maximals", x -> x.maximals(1, 1));
        calls.put("maximal of no least", x -> x.maximal(0, 241, 2, 0));
        calls.put("maximal of no what", x -> x.maximal(0, 1, 2, 3));
        calls.put("strings", x -> x.strings(241));
        calls.put("repeat", x -> x.repeat(3));
        calls.put("around of no what", x -> x.around(0, 2));
        calls.put("common", x -> x.common(2));
        calls.put("document of no what", x -> x.document(0, 3));
    }

    // Calls that ask, and those that refuse by their answer.
    private static void asked(Map<String, Consumer<BothEnds>> calls) {
        calls.put("fault", x -> x.fault());
        calls.put("told", x -> x.told(7));
        calls.put("sign", x -> x.sign(6));
        for (int what = 0; what < 7; what++) {
            int w = what;
            calls.put("row " + w, x -> x.row(1, 6, w));
        }
        calls.put("rowOf", x -> x.rowOf(1, 6));
        calls.put("count", x -> x.count(0, 7, 'a'));
        calls.put("letter", x -> x.letter(0));
        calls.put("grows to the left", x -> x.grows(0));
        calls.put("grows to the right", x -> x.grows(1));
        calls.put("hit", x -> x.hit(1, 2));
        calls.put("hits", x -> x.hits(2));
        calls.put("often", x -> x.often(5));
        calls.put("shares", x -> x.shares(0));
        calls.put("sound", x -> x.sound());
        calls.put("needless", x -> x.needless());
        calls.put("digit", x -> x.digit(1, 1, 2));
        calls.put("found", x -> x.found(0, 3));
        calls.put("result", x -> x.result(1));
        calls.put("ran 0", x -> x.ran(0, 0));
        calls.put("ran 1", x -> x.ran(1, 1));
        calls.put("match", x -> x.match(0, 3));
        calls.put("maximals", x -> x.maximals(1, 2));
        calls.put("maximal", x -> x.maximal(0, 1, 2, 1));
        calls.put("strings", x -> x.strings(2));
        calls.put("repeat", x -> x.repeat(2));
        calls.put("unique", x -> x.unique(0));
        calls.put("around", x -> x.around(2, 1));
        calls.put("common", x -> x.common(1));
        calls.put("document", x -> x.document(1, 2));
        calls.put("print", x -> x.print(1));
        calls.put("status", x -> x.status(1));
        calls.put("status of others", x -> x.status(3));
        calls.put("grow that is REFUSED", x -> x.grow('h', 1));
        calls.put("grow to the left that is REFUSED", x -> x.grow('a', 0));
    }

    private static void refusedCalls() {
        Map<String, Consumer<BothEnds>> missing = new LinkedHashMap<>();
        missing(missing);
        sentence("NoSuchElementException");
        missing.forEach((name, run) -> refusedChangesNothing(name, MISSING, prepared(), prepared(), run));
        Map<String, Consumer<BothEnds>> wrong = new LinkedHashMap<>();
        wrong(wrong);
        sentence("IllegalArgumentException");
        wrong.forEach((name, run) -> refusedChangesNothing(name, ARGUMENT, prepared(), prepared(), run));
        sentence("IllegalStateException");
        for (int side = 0; side < 2; side++) {
            int s = side;
            refusedChangesNothing("grow at 40", STATE, with40Letters(), with40Letters(), x -> x.grow('a', s));
            refusedChangesNothing("grow at 40 by none there", STATE, with40Letters(), with40Letters(), x -> x.grow('h', s));
        }
    }

    private static void askedCalls() {
        Map<String, Consumer<BothEnds>> asked = new LinkedHashMap<>();
        asked(asked);
        sentence("Asked, nothing stays changed");
        asked.forEach((name, run) -> refusedChangesNothing(name, null, prepared(), prepared(), run));
    }

    private static void feedOnAFullTape() {
        sentence("feed: NONE, doing nothing");
        BothEnds x = prepared();
        BothEnds twin = prepared();
        for (int i = 0; i < 11; i++) {
            feed(x, "abcd");
            feed(twin, "abcd");
        }
        refusedChangesNothing("feed", null, x, twin, y -> y.feed(1, 2, 3, 4, 5));
    }

    private static void tellStrings(StringBuilder s, BothEnds x) {
        int n = x.told(0);
        for (int place = 0; place <= n; place++) {
            tell(s, "unique", x.unique(place));
            for (int what = 0; what < 2; what++) tell(s, "around", x.around(place, what));
        }
        for (int length = 1; length <= n; length++) tell(s, "strings", x.strings(length));
        for (int what = 0; what < 3; what++) tell(s, "repeat", x.repeat(what));
        for (int what = 0; what < 2; what++) tell(s, "common", x.common(what));
        int maximals = x.maximals(1, 2);
        tell(s, "maximals", maximals);
        for (int i = 0; i < 3 * maximals; i++) tell(s, "maximal", x.maximal(i / 3, 1, 2, i % 3));
    }

    private static void tellRows(StringBuilder s, BothEnds x) {
        int n = x.told(0);
        for (int side = 0; side < 2; side++) {
            for (int i = 0; i < 5 * (n + 1); i++) tell(s, "row", x.row(side, i / 5, new int[] {0, 1, 2, 3, 6}[i % 5]));
            for (int row = 0; row <= n + 1; row++) tell(s, "count", x.count(side, row, 'a' + row % 3));
            for (int place = 0; place <= n; place++) tell(s, "rowOf", x.rowOf(side, place));
            tell(s, "print", x.print(side));
            tell(s, "grows", x.grows(side));
        }
    }

    private static String allOfTheText(BothEnds x) {
        StringBuilder s = new StringBuilder();
        for (int what = 0; what <= 13; what++) tell(s, "told", x.told(what));
        tellRows(s, x);
        tellStrings(s, x);
        for (int i = 0; i < 3 * x.told(1); i++) tell(s, "document", x.document(i / 3, i % 3));
        for (int what = 0; what < 4; what++) tell(s, "hits", x.hits(what));
        int matches = matches(x, "abaab", 1);
        for (int i = 0; i < 4 * matches; i++) tell(s, "match", x.match(i / 4, i % 4));
        search(x, "ab");
        for (int what = 0; what < 5; what++) tell(s, "result", x.result(what));
        for (int i = 0; i < 4 * x.told(13); i++) tell(s, "found", x.found(i / 4, i % 4));
        return s.toString();
    }

    private static void nothingOfAFormerTextStays() {
        sentence("text: in place of that there is");
        String[] former = {"ab".repeat(120), "a|".repeat(119) + "ab", "aab|aabc|abca|cab".repeat(10), "h", "abaab|abaab"};
        for (String next : new String[] {"a", "b", "aa", "ab", "a|a", "abaab", "ab|ab", "ab|cd|ab", "aab|ba"}) {
            String due = allOfTheText(on(next));
            for (String first : former) {
                BothEnds x = on(first);
                grow(x, "aba");
                x.common(0);
                search(x, "a");
                matches(x, "aabcabcab", 1);
                due("text", text(x, next), 0);
                same(next + " behind " + first, allOfTheText(x), due);
            }
        }
    }

    private static void shrinkAndClearOfAnEmptyCursor() {
        sentence("shrink: NONE, clear: 0");
        for (boolean shrink : new boolean[] {true, false}) {
            BothEnds x = prepared();
            BothEnds twin = prepared();
            x.clear();
            twin.clear();
            refusedChangesNothing(shrink ? "shrink" : "clear", null, x, twin, y -> {
                if (shrink) y.shrink(); else y.clear();
            });
        }
    }

    public static void main(String[] args) {
        refusedCalls();
        askedCalls();
        feedOnAFullTape();
        shrinkAndClearOfAnEmptyCursor();
        nothingOfAFormerTextStays();
        end("NothingChangesTest");
    }
}
