/** Each promise of the document by cases written out: ordinary ones, the edges that it names, wrong inputs. */
public final class PromiseTest extends Check {
    private static void promise1NewObject() {
        BothEnds x = new BothEnds();
        int[] told = {1, 1, 1, 4, 0, 0, 0, 2, 1, 1, 1, 0, 0, -1};
        for (int what = 0; what < told.length; what++) due("new told " + what, x.told(what), told[what]);
        due("new sign", x.sign(0), 'a');
        due("new fault", x.fault(), -1);
        due("new digits", x.digit(0, 0, 0) + x.digit(0, 0, 1) + x.digit(0, 0, 2), 0);
        due("NONE", BothEnds.NONE, -1);
    }

    private static void promise2Feed() {
        BothEnds x = new BothEnds();
        due("feed", x.feed(0x61626364, 0x65666768, 0x61616161, 0x62626262, 0x63636363), 20);
        due("text of all bytes", x.text(20), 0);
        String want = "abcdefghaaaabbbbcccc";
        for (int i = 0; i < 20; i++) due("fed byte " + i, x.sign(i), want.charAt(i));
        for (int i = 1; i <= 12; i++) due("feed " + i, x.feed(0x61616161, 0, 0, 0, 0), 20 * i);
        due("feed beyond 240", x.feed(1, 2, 3, 4, 5), -1);
        due("tape after it", x.told(12), 240);
        BothEnds y = new BothEnds();
        y.feed(0x617cff80, 0, 0, 0, 0);
        due("high bytes are no signs", y.text(4), -3);
    }

    private static void promise3Text() {
        String[] bad = {"|", "|a", "a|", "a||b", "ai", "`a", "ab|c|", "a b", "a|b||", "aA"};
        int[] at = {0, 0, 1, 2, 1, 0, 4, 1, 4, 1};
        for (int i = 0; i < bad.length; i++) {
            BothEnds x = on("abc");
            grow(x, "b");
            search(x, "a");
            feed(x, "abc");
            x.matches(3, 1);
            feed(x, bad[i]);
            due("text " + bad[i], x.text(bad[i].length()), -1 - at[i]);
            due("length stays", x.told(0), 3);
            due("cursor stays", x.told(4), 1);
            due("result stays", x.told(13), 1);
            due("match stays", x.match(0, 1), 3);
            due("tape is empty", x.told(12), 0);
            refuses("text of nothing", ARGUMENT, () -> x.text(1));
        }
        BothEnds x = on("abc");
        grow(x, "b");
        search(x, "a");
        feed(x, "abc");
        x.matches(3, 1);
        feed(x, "a|h");
        for (int n : new int[] {0, -1, 21, Integer.MIN_VALUE, Integer.MAX_VALUE}) refuses("text " + n, ARGUMENT, () -> x.text(n));
        due("tape stays", x.told(12), 20);
        x.step(3);
        scheme(x, "0");
        feed(x, "a|h");
        due("text again", x.text(3), 0);
        due("cursor is empty", x.told(4), 0);
        due("no result", x.told(13), -1);
        refuses("no match", MISSING, () -> x.match(0, 0));
        due("step stays", x.told(3), 3);
        String full = "ab".repeat(120);
        due("240 signs", on(full).told(0), 240);
        due("120 documents", on("a" + "|a".repeat(119)).told(1), 120);
    }

    private static void promise4And5SchemeAndFault() {
        Object[][] told = {
            {"0 0 0;", 1, -1}, {"  0   0  4  ;  ", 1, -1}, {"01 00 01;10 01 01;", 2, -1},
            {"21034 00000 44444;", 1, -1}, {"0 0 0;".repeat(8), 8, -1}, {"0 0 0;".repeat(8) + "  ", 8, -1},
            {"0", -9, 1}, {"   ", -9, 3}, {"0 0 0", -9, 5}, {"0 0 0 ", -9, 6}, {"0 0 ", -9, 4}, {";", -9, 0},
            {"x", -9, 0}, {"0x0 0;", -9, 1}, {"0;", -9, 1}, {"0 ;", -9, 2}, {"0 0;", -9, 3}, {"0 0 0x", -9, 5},
            {"0 0 0;;", -9, 6}, {"0 0 0;x", -9, 6}, {"0 0 0 0;", -9, 6}, {"0 00 0;", -9, 3}, {"0 0 00;", -9, 5},
            {"01 0 00;", -9, 4}, {"01 00 0;", -9, 7}, {"01 00 0", -9, 7}, {"01 0", -9, 4},
            {"01 00 01;0 00 00;", -9, 10}, {"01 00 01;012 000 000;", -9, 11}, {"01 00 01;0", -9, 10},
            {"01234 00000 00000;012340 00000 00000;", -9, 23},
            {"1 0 0;", -8, 0}, {"00 00 00;", -8, 1}, {"02 00 00;", -8, 1}, {"021 000 000;", -8, 1},
            {"9 0 0;", -8, 0}, {"1", -8, 0}, {"1x", -8, 0}, {"543210 0", -8, 0}, {"0 5 5;", -8, 2}, {"0 0 5;", -8, 4},
            {"0 2 1;", -8, 4}, {"01 10 11;", -8, 4}, {"01 00 10;", -8, 7}, {"01 01 00;", -8, 7}, {"01 00 01;20 00 00;", -8, 9},
            {"0 0 0;1 0 0;", -8, 6}, {"012 012 014;012 012 01", -9, 22},
            {"012345 0 0;", -7, 5}, {"432109", -7, 5}, {"0 0 0;".repeat(9), -7, 48}, {"0 0 0;".repeat(8) + "  7", -7, 50},
            {"0 0 0;".repeat(8) + "x", -9, 48},
        };
        for (Object[] one : told) {
            BothEnds x = new BothEnds();
            scheme(x, "012 000 012;");
            String s = (String) one[0];
            due("scheme " + s, scheme(x, s), (Integer) one[1]);
            due("fault of " + s, x.fault(), (Integer) one[2]);
            due("tape is empty", x.told(12), 0);
            if ((Integer) one[1] < 0) {
                due("parts stay after " + s, x.told(10), 3);
                due("searches stay after " + s, x.told(9), 1);
                due("budget stays after " + s, x.told(11), 2);
            }
        }
        BothEnds x = on("abab");
        search(x, "a");
        feed(x, "0 0 1;");
        for (int n : new int[] {0, -1, 21}) refuses("scheme " + n, ARGUMENT, () -> x.scheme(n));
        due("tape stays", x.told(12), 20);
        due("only its first bytes", x.scheme(5), -9);
        due("fault", x.fault(), 5);
        feed(x, "0 0 1;");
        due("scheme", x.scheme(6), 1);
        due("no fault", x.fault(), -1);
        due("result stays", x.told(13), 2);
    }

    private static void promise6Step() {
        BothEnds x = on("abcdefghabcdefgh");
        due("step", x.step(16), 4);
        due("step", x.step(1), 16);
        for (int v : new int[] {0, 17, -1}) refuses("step " + v, ARGUMENT, () -> x.step(v));
        due("step stays", x.step(5), 1);
        due("noted", x.told(8), 4);
        due("way", x.row(0, x.rowOf(0, 14), 5), 4);
    }

    private static void promises7To9GrowShrinkClear() {
        BothEnds x = on("abab|ab");
        due("grow", x.grow('a', 0), 3);
        due("grow", x.grow('b', 1), 3);
        due("refused", x.grow('c', 1), 0);
        due("refused across a bar", x.grow('b', 1), 0);
        due("stays", x.told(4), 2);
        due("grow left", x.grow('b', 0), 1);
        due("low 0", x.told(5), 7);
        due("low 1", x.told(6), 7);
        due("shrink left", x.shrink(), 3);
        due("low 0", x.told(5), 2);
        due("low 1", x.told(6), 5);
        due("shrink right", x.shrink(), 3);
        due("letter", x.letter(0), 'a');
        due("low 1", x.told(6), 2);
        due("shrink", x.shrink(), 8);
        due("shrink empty", x.shrink(), -1);
        for (int letter : new int[] {96, 105, 124, 0, -159}) refuses("grow " + letter, ARGUMENT, () -> x.grow(letter, 0));
        for (int what : new int[] {-1, 2}) refuses("grow what " + what, ARGUMENT, () -> x.grow('a', what));
        BothEnds y = on("a".repeat(100));
        for (int i = 1; i <= 40; i++) due("grow " + i, y.grow('a', i % 2), 101 - i);
        refuses("grow at 40", STATE, () -> y.grow('a', 0));
        refuses("grow at 40 by none there", STATE, () -> y.grow('b', 0));
        refuses("grow at 40 by no letter", ARGUMENT, () -> y.grow('i', 0));
        due("40 letters", y.told(4), 40);
        due("grows at 40", y.grows(1), 0);
        due("shrink", y.shrink(), 62);
        due("grows at 39", y.grows(1), 1);
        due("clear", y.clear(), 39);
        due("clear", y.clear(), 0);
        due("size", y.told(7), 101);
        due("lows", y.told(5) + y.told(6), 0);
        for (int i = 1; i <= 40; i++) due("grow left " + i, y.grow('a', 0), 101 - i);
        for (int i = 39; i >= 1; i--) due("shrink to " + i, y.shrink(), 101 - i);
        y.clear();
        for (int i = 1; i <= 40; i++) due("grow right " + i, y.grow('a', 1), 101 - i);
    }

    private static void promise10Told() {
        BothEnds x = on("ab|cab|h");
        due("N", x.told(0), 8);
        due("documents", x.told(1), 3);
        due("letters", x.told(2), 4);
        due("noted", x.told(8), 3);
        scheme(x, "01 01 13;10 00 02;");
        due("searches", x.told(9), 2);
        due("parts", x.told(10), 2);
        due("budget", x.told(11), 3);
        for (int what : new int[] {-1, 14}) refuses("told " + what, ARGUMENT, () -> x.told(what));
        search(x, "hhhh");
        due("result of none", x.told(13), 0);
    }

    private static void promises11To14Rows() {
        BothEnds x = on("abab|ab");
        due("sign", x.sign(4), '|');
        due("sign END", x.sign(7), 0);
        for (int place : new int[] {-1, 8}) refuses("sign " + place, MISSING, () -> x.sign(place));
        int[] places = {7, 4, 5, 2, 0, 6, 3, 1};
        int[] firsts = {0, '|', 'a', 'a', 'a', 'b', 'b', 'b'};
        int[] befores = {'b', 'b', '|', 'b', 0, 'a', 'a', 'a'};
        int[] walks = {5, 6, 1, 7, 0, 2, 3, 4};
        int[] noted = {0, 1, 0, 0, 1, 0, 0, 0};
        int[] ways = {3, 0, 1, 2, 0, 2, 3, 1};
        int[] alike = {0, 0, 0, 2, 2, 0, 1, 1};
        int[][] all = {places, firsts, befores, walks, noted, ways, alike};
        for (int row = 0; row < 8; row++) {
            for (int what = 0; what < 7; what++) due("row " + row + " " + what, x.row(0, row, what), all[what][row]);
            due("rowOf " + places[row], x.rowOf(0, places[row]), row);
        }
        int[] back = {7, 2, 6, 1, 4, 5, 0, 3};
        for (int row = 0; row < 8; row++) due("row back " + row, x.row(1, row, 0), back[row]);
        due("alike across a bar", on("ab|ab|ab").row(0, 3, 6), 0);
        due("alike across a bar", on("ab|ab|ab").row(0, 2, 6), 3);
        refuses("row side", MISSING, () -> x.row(2, 0, 9));
        refuses("row side", MISSING, () -> x.row(-1, 0, 0));
        refuses("row", MISSING, () -> x.row(0, 8, 9));
        refuses("row", MISSING, () -> x.row(1, -1, 0));
        refuses("row what", ARGUMENT, () -> x.row(0, 0, 7));
        refuses("row what", ARGUMENT, () -> x.row(0, 0, -1));
        refuses("rowOf", MISSING, () -> x.rowOf(0, 8));
        refuses("rowOf", MISSING, () -> x.rowOf(0, -1));
        refuses("rowOf side", MISSING, () -> x.rowOf(2, 0));
        due("count none", x.count(0, 0, 'b'), 0);
        due("count", x.count(0, 2, 'b'), 2);
        due("count all", x.count(0, 8, 'a'), 3);
        due("count h", x.count(1, 8, 'h'), 0);
        refuses("count", MISSING, () -> x.count(0, 9, '|'));
        refuses("count", MISSING, () -> x.count(0, -1, 'a'));
        refuses("count side", MISSING, () -> x.count(2, 0, 'a'));
        for (int letter : new int[] {'|', 0, 96, 105}) refuses("count " + letter, ARGUMENT, () -> x.count(0, 0, letter));
    }

    private static void promises15And16Letters() {
        BothEnds x = on("abcab|bca");
        x.grow('b', 0);
        x.grow('a', 0);
        x.grow('c', 1);
        due("letters", x.letter(0) * 65536 + x.letter(1) * 256 + x.letter(2), ('a' << 16) + ('b' << 8) + 'c');
        refuses("letter", MISSING, () -> x.letter(3));
        refuses("letter", MISSING, () -> x.letter(-1));
        due("grows left", x.grows(0), 0);
        due("grows right", x.grows(1), 1);
        x.clear();
        due("grows empty", x.grows(0), 7);
        x.grow('b', 0);
        due("grows left", x.grows(0), 1);
        due("grows right", x.grows(1), 4);
        for (int what : new int[] {-1, 2}) refuses("grows " + what, ARGUMENT, () -> x.grows(what));
        refuses("letter of none", MISSING, () -> new BothEnds().letter(0));
    }

    private static void promises17And18Hits() {
        BothEnds x = on("aaab|caaaa");
        grow(x, "aa");
        int[][] hits = {{0, 0, 0}, {1, 0, 1}, {6, 1, 1}, {7, 1, 2}, {8, 1, 3}};
        for (int k = 0; k < 5; k++) for (int what = 0; what < 3; what++) due("hit " + k, x.hit(k, what), hits[k][what]);
        refuses("hit", MISSING, () -> x.hit(5, 7));
        refuses("hit", MISSING, () -> x.hit(-1, 0));
        for (int what : new int[] {-1, 3}) refuses("hit what", ARGUMENT, () -> x.hit(0, what));
        int[] of = {2, 1, 5, 3};
        for (int what = 0; what < 4; what++) due("hits " + what, x.hits(what), of[what]);
        for (int what : new int[] {-1, 4}) refuses("hits what", ARGUMENT, () -> x.hits(what));
        x.clear();
        due("bar", x.hit(4, 1), 0);
        due("bar", x.hit(4, 2), 4);
        due("END", x.hit(10, 1), 1);
        due("END", x.hit(10, 2), 5);
        due("overlaps of none", x.hits(3), 0);
        due("documents", x.hits(0), 2);
        grow(x, "c");
        due("one document", x.hits(0), 1);
        due("no least gap", x.hits(1), -1);
        due("no greatest gap", x.hits(2), -1);
        due("no overlap", x.hits(3), 0);
    }

    private static void promise19Often() {
        BothEnds x = on("aaab|caaaa");
        feed(x, "aab|");
        due("often", x.often(1), 7);
        due("often", x.often(2), 5);
        due("often", x.often(3), 1);
        refuses("often of a bar", ARGUMENT, () -> x.often(4));
        for (int n : new int[] {0, -1, 21}) refuses("often " + n, ARGUMENT, () -> x.often(n));
        due("tape stays", x.told(12), 20);
        empty(x);
        feed(x, "hba");
        due("often none", x.often(3), 0);
        refuses("often byte 0", ARGUMENT, () -> x.often(4));
        BothEnds y = on("ab".repeat(120));
        feed(y, "ab".repeat(120));
        due("often all", y.often(240), 1);
        due("often 239", y.often(239), 1);
        due("often 238", y.often(238), 2);
    }

    private static void promises20To23Shares() {
        BothEnds x = new BothEnds();
        Object[][] told = {
            {"01 00 01;10 01 01;", 3, 0, 0, 1, 0}, {"01 00 01;10 00 01;", 3, 0, 1, 0, 0},
            {"012 000 012;", 10, 5, 0, 0, 0}, {"0 0 4;", 5, 0, 0, 1, 0}, {"0 1 2;0 0 0;", 3, 0, 0, 1, 0},
            {"0 1 2;0 0 1;0 2 2;", 3, 0, 2, 0, 5}, {"01234 00000 44444;", 126, 0, 0, 1, 0},
            {"0 0 1;0 0 1;", 2, 0, 2, 0, 3}, {"10 00 01;01 11 11;", 3, 1, 1, 0, 2}, {"0 3 3;", 4, 3, 0, 0, 0},
        };
        for (Object[] one : told) {
            scheme(x, (String) one[0]);
            for (int what = 0; what < 3; what++) due("shares " + what + " of " + one[0], x.shares(what), (Integer) one[what + 1]);
            due("sound " + one[0], x.sound() ? 1 : 0, (Integer) one[4]);
            due("needless " + one[0], x.needless(), (Integer) one[5]);
        }
        for (int what : new int[] {-1, 3}) refuses("shares " + what, ARGUMENT, () -> x.shares(what));
        scheme(x, "01 12 34;10 00 14;");
        int[][] digits = {{0, 1, 1, 2, 3, 4}, {1, 0, 0, 0, 1, 4}};
        for (int s = 0; s < 2; s++) for (int i = 0; i < 6; i++) due("digit", x.digit(s, i % 2, i / 2), digits[s][i]);
        refuses("digit", MISSING, () -> x.digit(2, 0, 5));
        refuses("digit", MISSING, () -> x.digit(-1, 0, 0));
        refuses("digit", MISSING, () -> x.digit(0, 2, 5));
        refuses("digit", MISSING, () -> x.digit(0, -1, 0));
        for (int what : new int[] {-1, 3}) refuses("digit what", ARGUMENT, () -> x.digit(0, 0, what));
    }

    private static void promises24To27Search() {
        BothEnds x = on("abab|ab");
        due("no result", x.result(0), -1);
        due("no run", x.ran(0, 0), -1);
        refuses("found of none", MISSING, () -> x.found(0, 9));
        refuses("ran of none", MISSING, () -> x.ran(1, 0));
        refuses("result what, of none", ARGUMENT, () -> x.result(5));
        scheme(x, "01 00 01;10 00 01;");
        feed(x, "abb|" + "a".repeat(30));
        for (int n : new int[] {-1, 0, 1, 4, 25, 41}) refuses("search " + n, ARGUMENT, () -> x.search(n));
        due("tape stays", x.told(12), 40);
        due("search", x.search(3), 1);
        due("tape is empty", x.told(12), 0);
        int[] found = {0, 1, 1, 4};
        for (int what = 0; what < 4; what++) due("found " + what, x.found(0, what), found[what]);
        // The first SEARCH tries a; aa, ab; aba, abb. The second b; bb.
        int[] result = {1, 7, 0, 1, 3};
        for (int what = 0; what < 5; what++) due("result " + what, x.result(what), result[what]);
        due("ran", x.ran(0, 0), 1);
        due("ran", x.ran(0, 1), 5);
        due("ran", x.ran(1, 0), 0);
        due("ran", x.ran(1, 1), 2);
        refuses("found", MISSING, () -> x.found(1, 9));
        refuses("found", MISSING, () -> x.found(-1, 0));
        for (int what : new int[] {-1, 4}) refuses("found what", ARGUMENT, () -> x.found(0, what));
        for (int what : new int[] {-1, 5}) refuses("result what", ARGUMENT, () -> x.result(what));
        for (int what : new int[] {-1, 2}) refuses("ran what", ARGUMENT, () -> x.ran(0, what));
        refuses("ran", MISSING, () -> x.ran(2, 9));
        refuses("ran", MISSING, () -> x.ran(-1, 0));
        scheme(x, "0123 0000 0000;");
        due("fewer letters than parts", x.ran(0, 0), -1);
        due("result stays", x.result(1), 7);
        due("found stays", x.found(0, 2), 1);
        scheme(x, "0 0 2;");
        due("another scheme in thought", x.ran(0, 0), 2);
        due("result stays", x.result(0), 1);
        due("search of a letter the text has not", search(x, "hb"), 4);
        due("no mismatchless", x.result(2), 0);
        due("most mismatches", x.result(3), 2);
        scheme(x, "0 0 0;");
        due("search none", search(x, "h"), 0);
        due("tried all the same", x.result(1), 0);
        due("greatest of none", x.result(3), -1);
        due("letters", x.result(4), 1);
        scheme(x, "0 0 1;0 1 2;0 0 0;");
        due("found by several", search(x, "ab"), 4);
        due("in all", x.result(0), 7);
        due("found twice", x.found(0, 2), 2);
        due("with none", x.result(2), 3);
        searchFromTheMiddle();
        due("24 letters", search(on("a".repeat(30)), "a".repeat(24)), 7);
    }

    private static void searchFromTheMiddle() {
        BothEnds x = on("abcd");
        scheme(x, "102 002 012;");
        due("search from the middle", search(x, "abbd"), 0);
        // Part 1 is its second letter, b; then a to the left; then its last two, b and d, to the right.
        due("tried", x.result(1), 1 + 4 + 4 + 4);
        scheme(x, "102 000 012;");
        due("search from the middle", search(x, "abbd"), 1);
        due("bits", x.found(0, 3), 4);
    }

    private static void promises28And29Matches() {
        BothEnds x = on("abab|ab");
        refuses("match of none", MISSING, () -> x.match(0, 0));
        feed(x, "bababca|");
        for (int n : new int[] {0, -1, 8, 21}) refuses("matches " + n, ARGUMENT, () -> x.matches(n, 1));
        for (int least : new int[] {0, 241, -1}) refuses("matches least " + least, ARGUMENT, () -> x.matches(7, least));
        due("tape stays", x.told(12), 20);
        due("matches", x.matches(7, 1), 3);
        due("tape is empty", x.told(12), 0);
        int[][] all = {{0, 3, 1, 1}, {1, 4, 1, 0}, {6, 1, 3, 0}};
        for (int k = 0; k < 3; k++) for (int what = 0; what < 4; what++) due("match " + k, x.match(k, what), all[k][what]);
        refuses("match", MISSING, () -> x.match(3, 9));
        refuses("match", MISSING, () -> x.match(-1, 0));
        for (int what : new int[] {-1, 4}) refuses("match what", ARGUMENT, () -> x.match(0, what));
        refuses("matches of an empty tape", ARGUMENT, () -> x.matches(1, 1));
        due("match stays", x.match(2, 0), 6);
        feed(x, "bababca");
        due("matches of 4", x.matches(7, 4), 1);
        due("match", x.match(0, 0), 1);
        feed(x, "bababca");
        due("matches of 240", x.matches(7, 240), 0);
        refuses("match of none", MISSING, () -> x.match(0, 0));
    }

    private static void promises30And31Maximals() {
        BothEnds x = on("abcab|cab|bc");
        // ab: ahead the beginning, c, c; behind c, |, |. b: ahead a, a, a, |. bc: ahead a, |. c: ahead b, the bar, b. cab: ahead b, the bar.
        due("maximals", x.maximals(1, 2), 5);
        int[][] all = {{2, 0, 3}, {1, 1, 4}, {2, 1, 2}, {1, 2, 3}, {3, 2, 2}};
        for (int k = 0; k < 5; k++) for (int what = 0; what < 3; what++) due("maximal " + k + " " + what, x.maximal(k, 1, 2, what), all[k][what]);
        due("of 2 letters", x.maximals(2, 2), 3);
        due("the last of these", x.maximal(2, 2, 2, 0), 3);
        due("at 3 places", x.maximals(1, 3), 3);
        due("both", x.maximals(2, 3), 1);
        due("edges", x.maximals(240, 241), 0);
        refuses("maximal", MISSING, () -> x.maximal(5, 1, 2, 0));
        refuses("maximal", MISSING, () -> x.maximal(-1, 1, 2, 0));
        refuses("maximal what ahead of none such", ARGUMENT, () -> x.maximal(9, 1, 2, 3));
        refuses("maximal least", ARGUMENT, () -> x.maximal(9, 0, 2, 0));
        refuses("maximal often", ARGUMENT, () -> x.maximal(9, 1, 242, 0));
        refuses("maximals", ARGUMENT, () -> x.maximals(0, 2));
        refuses("maximals", ARGUMENT, () -> x.maximals(241, 2));
        refuses("maximals", ARGUMENT, () -> x.maximals(1, 1));
        refuses("maximals", ARGUMENT, () -> x.maximals(1, 242));
        due("all a", on("a".repeat(240)).maximals(1, 2), 239);
        due("all a, the 3rd", on("a".repeat(240)).maximal(2, 1, 2, 2), 238);
        due("same letter ahead", on("abcabc").maximals(1, 2), 1);
        due("alike behind but for a bar", on("ab|ab").maximals(1, 2), 1);
    }

    private static void promises32To34Strings() {
        BothEnds x = on("abcab|cab|bc");
        int[] many = {3, 3, 3, 2, 1, 0};
        for (int length = 1; length <= 6; length++) due("strings " + length, x.strings(length), many[length - 1]);
        due("strings 240", x.strings(240), 0);
        for (int length : new int[] {0, 241, -1}) refuses("strings " + length, ARGUMENT, () -> x.strings(length));
        int[] repeat = {3, 2, 2};
        for (int what = 0; what < 3; what++) due("repeat " + what, x.repeat(what), repeat[what]);
        for (int what : new int[] {-1, 3}) refuses("repeat " + what, ARGUMENT, () -> x.repeat(what));
        BothEnds y = on("abc|d");
        due("repeat none", y.repeat(0), 0);
        due("repeat none", y.repeat(1), -1);
        due("repeat none", y.repeat(2), 0);
        due("of alike long ones", on("cdab|ab|cd|ab").repeat(1), 0);
        due("of alike long ones", on("cdab|ab|cd|ab").repeat(2), 2);
        due("overlapping", on("aaaa").repeat(0), 3);
        int[] unique = {3, 3, -1, -1, -1, -1, -1, -1, -1, -1, -1, -1, -1};
        for (int place = 0; place < 13; place++) due("unique " + place, x.unique(place), unique[place]);
        due("unique letter", y.unique(4), 1);
        for (int place : new int[] {-1, 13}) refuses("unique " + place, MISSING, () -> x.unique(place));
        due("240 unlike ends", on("a".repeat(240)).unique(0), 240);
    }

    private static void promise35Around() {
        BothEnds x = on("abcab|cab|bc");
        // Alone stand abc, bca, bcab and longer ones.
        int[] letters = {3, 3, 3, 3, 4, -1, -1, -1, -1, -1, -1, -1, -1};
        int[] begins = {0, 0, 0, 1, 1, -1, -1, -1, -1, -1, -1, -1, -1};
        for (int place = 0; place < 13; place++) {
            due("around " + place, x.around(place, 0), letters[place]);
            due("around begins " + place, x.around(place, 1), begins[place]);
        }
        refuses("around", MISSING, () -> x.around(13, 9));
        refuses("around", MISSING, () -> x.around(-1, 0));
        for (int what : new int[] {-1, 2}) refuses("around what", ARGUMENT, () -> x.around(0, what));
        due("shorter from further right", on("aaba").around(1, 1), 0);
        due("shorter from further right", on("aaab|aaa").around(2, 1), 2);
    }

    private static void promise36Common() {
        BothEnds x = on("abcab|cab|bcabc");
        due("common", x.common(0), 3);
        due("common", x.common(1), 2);
        due("one document", on("abcab").common(0), 5);
        due("one document", on("abcab").common(1), 0);
        due("none", on("ab|c").common(0), 0);
        due("none", on("ab|c").common(1), -1);
        due("of alike long ones", on("cdab|ab|abcd|abcd").common(1), 2);
        due("of alike long ones", on("cdab|abcd|cdab").common(1), 0);
        due("not across bars", on("ab|ab|ab").common(0), 2);
        for (int what : new int[] {-1, 2}) refuses("common " + what, ARGUMENT, () -> x.common(what));
    }

    private static void promise37Document() {
        BothEnds x = on("aaab|caaaa|b");
        grow(x, "aa");
        int[][] all = {{0, 4, 2}, {5, 5, 3}, {11, 1, 0}};
        for (int d = 0; d < 3; d++) for (int what = 0; what < 3; what++) due("document " + d, x.document(d, what), all[d][what]);
        refuses("document", MISSING, () -> x.document(3, 9));
        refuses("document", MISSING, () -> x.document(-1, 0));
        for (int what : new int[] {-1, 3}) refuses("document what", ARGUMENT, () -> x.document(0, what));
        x.clear();
        due("with its bar", x.document(0, 2), 5);
        due("with END", x.document(2, 2), 2);
    }

    private static void promise38Print() {
        BothEnds x = on("abab|ab");
        due("print", x.print(0), 2786852159719L);
        int[] back = {'a', 'a', '|', 'b', 'b', 'b', 0, 'a'};
        // The text backwards is ba|baba; its rows are those of places 7, 2, 6, 1, 4, 5, 0, 3.
        String s = "ba|baba";
        int[] places = {7, 2, 6, 1, 4, 5, 0, 3};
        long sum = 0;
        for (int i = 0; i < 8; i++) sum = 31 * sum + (places[i] == 0 ? 0 : s.charAt(places[i] - 1));
        due("print back", x.print(1), sum);
        due("its first BEFORE", x.row(1, 0, 2), back[0]);
        for (int side : new int[] {-1, 2}) refuses("print " + side, MISSING, () -> x.print(side));
        long wrapped = 0;
        BothEnds y = on("abcd".repeat(60));
        for (int row = 0; row <= 240; row++) wrapped = wrapped * 31 + y.row(0, row, 2);
        due("print wraps around", y.print(0), wrapped);
    }

    private static void promise39Status() {
        BothEnds x = on("a".repeat(100));
        due("status", x.status(0) + x.status(1) + x.status(2), 0);
        refuses("sign", MISSING, () -> x.sign(101));
        refuses("told", ARGUMENT, () -> x.told(14));
        refuses("told", ARGUMENT, () -> x.told(-1));
        for (int i = 0; i < 40; i++) x.grow('a', 0);
        for (int i = 0; i < 3; i++) refuses("grow", STATE, () -> x.grow('a', 0));
        x.grow('a' + 0, 0 + x.shrink() * 0);
        due("missing", x.status(0), 1);
        due("arguments", x.status(1), 2);
        due("states", x.status(2), 3);
        due("others", x.status(3), -1);
        due("others", x.status(-1), -1);
        due("grow to none is no refusal that counts", x.grow('b', 0 * x.clear()), 0);
        feed(x, "b");
        x.text(1);
        due("counts stay behind text", x.status(2), 3);
    }

    private static void sharesAskedInAnyOrder() {
        BothEnds x = new BothEnds();
        scheme(x, "0 0 1;0 0 1;");
        due("needless first", x.needless(), 3);
        scheme(x, "0 0 1;");
        due("sound first", x.sound() ? 1 : 0, 1);
        scheme(x, "0 0 1;0 0 1;");
        due("sound no more", x.sound() ? 1 : 0, 0);
        due("new object is sound", new BothEnds().sound() ? 1 : 0, 1);
    }

    private static void fullText() {
        BothEnds x = on("a".repeat(240));
        due("search in 240", search(x, "a"), 240);
        due("the last place", x.found(239, 0), 239);
        due("its mismatches", x.found(239, 1), 0);
        due("its times", x.found(239, 2), 1);
        due("its bits", x.found(239, 3), 0);
        due("with none", x.result(2), 240);
        due("around", x.around(0, 0), 240);
        due("around begins", x.around(239, 1), 0);
        due("unique", x.unique(0), 240);
        due("unique", x.unique(1), -1);
        due("repeat", x.repeat(0), 239);
        due("common", x.common(0), 240);
        due("strings", x.strings(240), 1);
        due("count", x.count(1, 241, 'a'), 240);
        due("last row", x.row(1, 240, 0), 0);
        due("hits", x.hit(240, 0), 240);
        feed(x, "a".repeat(240));
        due("matches", x.matches(240, 240), 1);
        due("match", x.match(0, 1), 240);
        feed(x, "b".repeat(240));
        due("no matches", x.matches(240, 1), 0);
        due("maximal", x.maximal(238, 1, 2, 0), 239);
        due("documents", on("a|".repeat(119) + "ab").document(119, 0), 238);
    }

    public static void main(String[] args) {
        promise1NewObject();
        promise2Feed();
        promise3Text();
        promise4And5SchemeAndFault();
        promise6Step();
        promises7To9GrowShrinkClear();
        promise10Told();
        promises11To14Rows();
        promises15And16Letters();
        promises17And18Hits();
        promise19Often();
        promises20To23Shares();
        sharesAskedInAnyOrder();
        promises24To27Search();
        promises28And29Matches();
        promises30And31Maximals();
        promises32To34Strings();
        promise35Around();
        promise36Common();
        promise37Document();
        promise38Print();
        promise39Status();
        fullText();
        end("PromiseTest");
    }
}
