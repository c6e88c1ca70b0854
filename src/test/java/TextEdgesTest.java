/** The boundary cases of the text, its rows and the cursor (Terms 1 and 2; promises 1 to 3 and 6 to 19), each sentence by itself. */
public final class TextEdgesTest extends Check {
    private static final int LEAST = Integer.MIN_VALUE;
    private static final int GREATEST = Integer.MAX_VALUE;

    private static String signs(BothEnds x) {
        StringBuilder s = new StringBuilder();
        for (int place = 0; place < x.told(0); place++) s.append((char) x.sign(place));
        return s.toString();
    }

    private static String letters(BothEnds x) {
        StringBuilder s = new StringBuilder();
        for (int k = 0; k < x.told(4); k++) s.append((char) x.letter(k));
        return s.toString();
    }

    // Terms

    private static void aTextHasOneSignAtLeast() {
        sentence("A TEXT has 1 to 240 SIGNS");
        BothEnds x = on("h");
        due("N", x.told(0), 1);
        same("signs", signs(x), "h");
        due("rows", x.told(7), 2);
    }

    private static void aTextHas240SignsAtMost() {
        sentence("A TEXT has 1 to 240 SIGNS (240)");
        String full = "abcdefgh".repeat(29) + "hgfe|dcb";
        BothEnds x = on(full);
        due("N", x.told(0), 240);
        same("signs", signs(x), full);
        due("END", x.sign(240), 0);
        due("rows", x.told(7), 241);
    }

    private static void lettersAreAToH() {
        sentence("letters (a to h)");
        due("all of them", on("abcdefgh").told(2), 8);
        for (int number : new int[] {0, 'A', '`', 'i', 'z', '{', '}', '~', 127, 128, 'a' + 128, 255}) {
            due("byte " + number, text(new BothEnds(), "a" + (char) number + "a"), -2);
        }
    }

    private static void noBarAtTheBeginning() {
        sentence("bars, none at the beginning");
        due("a bar ahead", text(new BothEnds(), "|a"), -1);
        due("a bar alone", text(new BothEnds(), "|"), -1);
    }

    private static void noBarAtTheEnd() {
        sentence("bars, none at the end");
        due("a bar behind", text(new BothEnds(), "a|"), -2);
        due("one before it is fine", text(new BothEnds(), "a|b|"), -4);
        due("as the 240th", text(new BothEnds(), "a".repeat(239) + "|"), -240);
        BothEnds x = new BothEnds();
        feed(x, "a|b");
        due("the end is at n, whatever the tape has behind", x.text(2), -2);
    }

    private static void noBarBehindABar() {
        sentence("bars, none behind another one");
        due("two", text(new BothEnds(), "a||b"), -3);
        due("three: the second is the first that is not so", text(new BothEnds(), "a|||b"), -3);
        due("one letter between", text(new BothEnds(), "a|b|a"), 0);
    }

    private static void documentsAreNumberedFrom0() {
        sentence("bars part DOCUMENTS (numbered from 0 on)");
        BothEnds x = on("ab|c");
        due("documents", x.told(1), 2);
        due("document 0", x.document(0, 0), 0);
        due("document 1", x.document(1, 0), 3);
        BothEnds y = on("a|".repeat(119) + "ab");
        due("as many as there can be", y.told(1), 120);
        due("the last one begins", y.document(119, 0), 238);
        due("the last one's letters", y.document(119, 1), 2);
        due("without a bar", on("abc").told(1), 1);
    }

    private static void endIsAheadOfTheBarAndThatOfA() {
        sentence("FORTH: END is ahead of the bar, that ahead of a");
        BothEnds x = on("ab|a|aa");
        // END; "|a|aa", "|aa"; "a" with END, with the bar, with a, with b behind; "b|a|aa".
        int[] places = {7, 2, 4, 6, 3, 5, 0, 1};
        for (int row = 0; row < places.length; row++) due("row " + row, x.row(0, row, 0), places[row]);
    }

    private static void row0IsThatOfPlaceN() {
        sentence("ROW 0 is that of PLACE N");
        for (String s : new String[] {"a", "ab|ab", "h".repeat(240)}) {
            BothEnds x = on(s);
            for (int side = 0; side < 2; side++) {
                due("its place", x.row(side, 0, 0), s.length());
                due("its first sign", x.row(side, 0, 1), 0);
                due("its row", x.rowOf(side, s.length()), 0);
            }
        }
    }

    private static void side1HasPlacesOfItsOwn() {
        sentence("Side 1: its PLACE p is N less 1 less p of the TEXT, END at its end");
        BothEnds x = on("abc|d");
        for (int p = 0; p < 5; p++) due("sign of " + p, x.row(1, x.rowOf(1, p), 1), x.sign(4 - p));
        due("END", x.row(1, x.rowOf(1, 5), 1), 0);
    }

    private static void thereAreNAnd1RowsOfEachSide() {
        sentence("There are N and 1 ROWS of each side");
        BothEnds x = on("abab");
        for (int side = 0; side < 2; side++) {
            int s = side;
            int places = 0;
            for (int row = 0; row <= 4; row++) places |= 1 << x.row(side, row, 0);
            due("all places have a row", places, 31);
            refuses("row N and 1", MISSING, () -> x.row(s, 5, 0));
        }
    }

    private static void beforeOfPlace0IsEnd() {
        sentence("BEFORE: the sign ahead of its PLACE (END, if that is 0)");
        BothEnds x = on("ba|c");
        due("side 0", x.row(0, x.rowOf(0, 0), 2), 0);
        due("side 1", x.row(1, x.rowOf(1, 0), 2), 0);
        due("a bar", x.row(0, x.rowOf(0, 3), 2), '|');
        due("of END's row", x.row(0, 0, 2), 'c');
        due("of END's row, side 1", x.row(1, 0, 2), 'b');
    }

    private static void place0WalksToRow0() {
        sentence("WALK of a ROW .. (of PLACE 0: to ROW 0)");
        BothEnds x = on("ba|c");
        for (int side = 0; side < 2; side++) {
            due("of place 0", x.row(side, x.rowOf(side, 0), 3), 0);
            for (int p = 1; p <= 4; p++) due("of " + p, x.row(side, x.rowOf(side, p), 3), x.rowOf(side, p - 1));
        }
    }

    private static void stepIs1To16And4AtFirst() {
        sentence("STEP (1 to 16; 4 at first)");
        BothEnds x = on("a".repeat(33));
        due("at first", x.step(1), 4);
        due("noted by 1: all rows", x.told(8), 34);
        due("then", x.step(16), 1);
        due("noted by 16: 0, 16, 32", x.told(8), 3);
        refusesEach("step", ARGUMENT, x::step, 0, 17, -1, -4, LEAST, GREATEST);
        due("it stays", x.told(3), 16);
    }

    private static void wayIs0OfANotedRow() {
        sentence("WAY: how many WALKS until one that is NOTED (0, if it is itself)");
        BothEnds x = on("abcdabcda");
        int[] ways = {0, 1, 2, 3, 0, 1, 2, 3, 0, 1};
        for (int side = 0; side < 2; side++) {
            for (int p = 0; p <= 9; p++) {
                due("way of " + p, x.row(side, x.rowOf(side, p), 5), ways[p]);
                due("noted " + p, x.row(side, x.rowOf(side, p), 4), ways[p] == 0 ? 1 : 0);
            }
        }
        x.step(16);
        due("a step greater than all places: place 0 alone is noted", x.told(8), 1);
        due("the longest way", x.row(0, 0, 5), 9);
        x.step(9);
        due("the last place is a multiple", x.told(8), 2);
        due("END's row is noted", x.row(0, 0, 4), 1);
        x.step(1);
        due("no way", x.row(0, 0, 5), 0);
    }

    private static void spansOfAnEmptyPattern() {
        sentence("LOW of either, and SIZE (of an empty PATTERN: 0, 0, N and 1)");
        BothEnds x = grow(on("bab|b"), "b");
        x.shrink();
        int[] told = {0, 0, 0, 6};
        for (int what = 4; what < 8; what++) due("told " + what, x.told(what), told[what - 4]);
        for (int what = 4; what < 8; what++) due("of a new object " + what, new BothEnds().told(what), what == 7 ? 2 : 0);
    }

    // Promise 1

    private static void aNewObject() {
        sentence("BothEnds(): The TEXT \"a\", STEP 4, the SCHEME as at first, no RESULT");
        BothEnds used = on("bcd|a");
        grow(used, "b");
        scheme(used, "01 00 01;");
        search(used, "bc");
        matches(used, "bc", 1);
        used.step(7);
        feed(used, "abc");
        thrownBy(() -> used.sign(9));
        BothEnds x = new BothEnds();
        int[] told = {1, 1, 1, 4, 0, 0, 0, 2, 1, 1, 1, 0, 0, -1};
        for (int what = 0; what < told.length; what++) due("told " + what, x.told(what), told[what]);
        same("text", signs(x), "a");
        for (int what = 0; what < 3; what++) due("digit " + what, x.digit(0, 0, what), 0);
        for (int what = 0; what < 5; what++) due("result " + what, x.result(what), -1);
        for (int what = 0; what < 3; what++) due("status " + what, x.status(what), 0);
        due("fault", x.fault(), -1);
        refuses("no match", MISSING, () -> x.match(0, 0));
        refuses("no place found", MISSING, () -> x.found(0, 0));
        refuses("no letter", MISSING, () -> x.letter(0));
    }

    // Promise 2

    private static void theHighestByteComesFirst() {
        sentence("feed: of each number the highest first");
        BothEnds x = new BothEnds();
        due("feed", x.feed(0x61626364, 0x65666768, 0x68676665, 0x64636261, 0x61637c62), 20);
        due("text", x.text(20), 0);
        same("signs", signs(x), "abcdefghhgfedcbaac|b");
    }

    private static void bytesAreNotNegative() {
        sentence("feed: twenty bytes (of numbers below 0)");
        BothEnds x = new BothEnds();
        x.feed(0xe1616161, -1, LEAST, GREATEST, 0x616161e1);
        refuses("a byte above 127 is no letter", ARGUMENT, () -> x.often(1));
        due("nor a sign", x.text(20), -1);
        BothEnds y = new BothEnds();
        y.feed(0x616161fc, 0, 0, 0, 0);
        due("nor a bar", y.text(4), -4);
    }

    private static void bytesComeBehindThoseThere() {
        sentence("feed: bytes come on the TAPE: how many there are");
        BothEnds x = new BothEnds();
        for (int i = 1; i <= 12; i++) due("feed " + i, x.feed(0x61616160 + Math.min(i, 8), 0x61616161, 0x61616161, 0x61616161, 0x61616161), 20 * i);
        due("text", x.text(240), 0);
        for (int i = 0; i < 12; i++) due("sign " + (20 * i + 3), x.sign(20 * i + 3), 96 + Math.min(i + 1, 8));
        due("an empty tape again", x.feed(0, 0, 0, 0, 0), 20);
    }

    private static void noMoreThan240Bytes() {
        sentence("feed: NONE, doing nothing, if there would be more than 240");
        BothEnds x = new BothEnds();
        feed(x, "ab".repeat(120));
        due("it is full", x.told(12), 240);
        for (int i = 0; i < 3; i++) due("feed", x.feed(0x63636363, 0x63636363, 0x63636363, 0x63636363, 0x63636363), -1);
        due("as many", x.told(12), 240);
        due("no refusal that counts", x.status(0) + x.status(1) + x.status(2), 0);
        due("text", x.text(240), 0);
        same("the same bytes", signs(x), "ab".repeat(120));
    }

    // Promise 3

    private static void textTakes1ToItsBytes() {
        sentence("text: the first n bytes of the TAPE (1 to its bytes)");
        BothEnds x = new BothEnds();
        refusesEach("text of an empty tape", ARGUMENT, x::text, 0, 1, -1, LEAST, GREATEST);
        feed(x, "hgfe");
        due("the first alone, whatever is behind", x.text(1), 0);
        same("signs", signs(x), "h");
        feed(x, "hgfedcbaabcdefghabab");
        due("all", x.text(20), 0);
        same("signs", signs(x), "hgfedcbaabcdefghabab");
    }

    private static void textEmptiesTheTape() {
        sentence("text: (.. empty then)");
        BothEnds x = new BothEnds();
        feed(x, "abc");
        x.text(2);
        due("bytes", x.told(12), 0);
        refuses("no bytes left", ARGUMENT, () -> x.often(1));
        feed(x, "a?");
        x.text(2);
        due("bytes behind one that is not so", x.told(12), 0);
    }

    private static void textInPlaceOfThatThereIs() {
        sentence("text: in place of that there is (the CURSOR is empty, there is no RESULT): 0");
        BothEnds x = on("abab|abab");
        grow(x, "ab");
        search(x, "a");
        matches(x, "ab", 1);
        x.step(3);
        scheme(x, "01 00 01;");
        scheme(x, "01 00 0x;");
        due("text", text(x, "hh"), 0);
        same("signs", signs(x), "hh");
        int[] told = {2, 1, 1, 3, 0, 0, 0, 3, 1, 1, 2, 1, 0, -1};
        for (int what = 0; what < told.length; what++) due("told " + what, x.told(what), told[what]);
        due("shrink", x.shrink(), -1);
        due("result", x.result(4), -1);
        due("ran", x.ran(0, 0), -1);
        refuses("found", MISSING, () -> x.found(0, 0));
        refuses("match", MISSING, () -> x.match(0, 0));
        due("the fault stays", x.fault(), 7);
        due("the very same text again", text(grow(x, "h"), "hh"), 0);
        due("the cursor is empty all the same", x.told(4), 0);
    }

    private static void textTellsTheFirstPlaceThatIsNotSo() {
        sentence("text: -1 and the first place that is not so (-1: place 0, -2: place 1 ..)");
        due("place 0", text(new BothEnds(), "?b?"), -1);
        due("place 1", text(new BothEnds(), "a??"), -2);
        due("place 2", text(new BothEnds(), "ab?||"), -3);
        due("place 239", text(new BothEnds(), "a".repeat(239) + "?"), -240);
    }

    private static void textThatIsNotSoChangesNothing() {
        sentence("text: .. that is not so: all stays");
        BothEnds x = on("abab|b");
        grow(x, "ab");
        search(x, "b");
        matches(x, "ab", 1);
        due("text", text(x, "a||b"), -3);
        same("signs", signs(x), "abab|b");
        same("cursor", letters(x), "ab");
        due("size", x.told(7), 2);
        due("result", x.told(13), 3);
        due("match", x.match(0, 1), 2);
        due("no refusal that counts", x.status(0) + x.status(1) + x.status(2), 0);
    }

    private static void textOfAnotherNIsRefused() {
        sentence("text: IllegalArgumentException: another n (the TAPE stays)");
        BothEnds x = on("abab|b");
        feed(x, "cdcd");
        refusesEach("text", ARGUMENT, x::text, 0, 21, -1, 240, LEAST, GREATEST);
        due("bytes", x.told(12), 20);
        same("signs", signs(x), "abab|b");
        due("counted", x.status(1), 6);
        due("its bytes are the same", x.text(4), 0);
        same("signs", signs(x), "cdcd");
        BothEnds y = new BothEnds();
        feed(y, "a".repeat(240));
        refuses("more than a full tape has", ARGUMENT, () -> y.text(241));
    }

    // Promise 6

    private static void stepFromNowOn() {
        sentence("step: STEP from now on: what it was");
        BothEnds x = on("abcdefgh");
        due("step", x.step(16), 4);
        due("step", x.step(16), 16);
        due("step", x.step(1), 16);
        due("told", x.told(3), 1);
    }

    // Promises 7 to 9

    private static void growOfALetterThatIsNone() {
        sentence("grow: IllegalArgumentException: another argument (letter)");
        BothEnds x = grow(on("ab|ab"), "a");
        refusesEach("grow", ARGUMENT, letter -> x.grow(letter, 1), '`', 'i', '|', 'B', 0, 1, -1, 'b' + 256, 'b' - 256, LEAST, GREATEST);
        same("cursor", letters(x), "a");
        due("a", x.grow('a', 1), 0);
        due("h is a letter", x.grow('h', 1), 0);
    }

    private static void growToNoSide() {
        sentence("grow: IllegalArgumentException: another argument (what)");
        BothEnds x = grow(on("ab|ab"), "a");
        refusesEach("grow", ARGUMENT, what -> x.grow('b', what), -1, 2, LEAST, GREATEST);
        same("cursor", letters(x), "a");
        due("size", x.told(7), 2);
    }

    private static void growThatIsRefusedStays() {
        sentence("GROWN: it is REFUSED, and stays, if SIZE would be 0; grow: 0: REFUSED");
        BothEnds x = grow(on("abc|ab"), "ab");
        int[] told = {2, x.told(5), x.told(6), 2};
        due("a letter that the text has not", x.grow('h', 0), 0);
        due("one that stands elsewhere", x.grow('b', 1), 0);
        due("over the text's beginning and a bar", x.grow('c', 0), 0);
        for (int what = 4; what < 8; what++) due("told " + what, x.told(what), told[what - 4]);
        same("cursor", letters(x), "ab");
        due("no refusal that counts", x.status(0) + x.status(1) + x.status(2), 0);
        due("the letter taken away is that of the latest that grew", x.shrink(), 2);
        same("cursor", letters(x), "a");
    }

    private static void theCursorHas40LettersAtMost() {
        sentence("THE CURSOR (at most 40 letters); grow: IllegalStateException: it has 40 letters");
        for (int side = 0; side < 2; side++) {
            int s = side;
            BothEnds x = on("a".repeat(42));
            for (int i = 1; i <= 40; i++) due("grow " + i, x.grow('a', s), 43 - i);
            for (int i = 0; i < 2; i++) {
                refusesEach("grow", STATE, what -> x.grow('a', what), 0, 1);
                refuses("grow by a letter that is not there", STATE, () -> x.grow('h', s));
            }
            due("counted", x.status(2), 6);
            due("letters", x.told(4), 40);
            due("size", x.told(7), 3);
            due("the last letter", x.letter(39), 'a');
            due("shrink", x.shrink(), 4);
            due("grow again", x.grow('a', s), 3);
        }
    }

    private static void growWithBothWrong() {
        sentence("grow: an argument that is none at 40 letters");
        BothEnds x = grow(on("a".repeat(42)), "a".repeat(40));
        refuses("letter", ARGUMENT, () -> x.grow('i', 0));
        refuses("what", ARGUMENT, () -> x.grow('a', 2));
        due("counted", x.status(1), 2);
        due("counted", x.status(2), 0);
    }

    private static void shrinkOfAnEmptyCursor() {
        sentence("shrink: NONE: it is empty");
        BothEnds x = on("ab");
        due("at first", x.shrink(), -1);
        x.grow('b', 0);
        due("to none", x.shrink(), 3);
        due("again", x.shrink(), -1);
        due("no refusal that counts", x.status(0) + x.status(1) + x.status(2), 0);
        due("it can grow", x.grow('a', 1), 1);
    }

    private static void shrinkTakesTheLatest() {
        sentence("shrink: the letter by which the CURSOR was GROWN last is taken away: SIZE then");
        BothEnds x = on("cabab|bab");
        int[] letters = {'b', 'a', 'a', 'c'};
        int[] sides = {1, 0, 1, 0};
        String[] cursors = {"", "b", "ab", "aba", "caba"};
        int[] sizes = {10, 4, 3, 1, 1};
        for (int i = 0; i < 4; i++) due("grow " + i, x.grow(letters[i], sides[i]), sizes[i + 1]);
        for (int i = 4; i > 0; i--) {
            same("cursor", letters(x), cursors[i]);
            due("shrink", x.shrink(), sizes[i - 1]);
        }
        same("cursor", letters(x), "");
    }

    private static void clearAnswersHowManyLettersItHad() {
        sentence("clear: the CURSOR is empty: how many letters it had");
        BothEnds x = on("a".repeat(42));
        due("none", x.clear(), 0);
        due("40", grow(x, "a".repeat(40)).clear(), 40);
        due("none any more", x.clear(), 0);
        due("shrink", x.shrink(), -1);
        due("size", x.told(7), 43);
        due("1", grow(x, "a").clear(), 1);
        for (int i = 1; i <= 40; i++) due("grow to the left again", x.grow('a', 0), 43 - i);
    }

    // Promises 10 to 14

    private static void toldOfWhatIsNotThere() {
        sentence("told: IllegalArgumentException: another argument");
        BothEnds x = new BothEnds();
        refusesEach("told", ARGUMENT, x::told, -1, 14, LEAST, GREATEST);
        due("counted", x.status(1), 4);
    }

    private static void toldOfTheResult() {
        sentence("told: 13 PLACES of the RESULT (NONE: there is none)");
        BothEnds x = on("ab|ab");
        due("none", x.told(13), -1);
        search(x, "h");
        due("one of no places", x.told(13), 0);
        search(x, "a");
        due("one of two", x.told(13), 2);
        text(x, "ab");
        due("none behind text()", x.told(13), -1);
    }

    private static void unlikeLettersAreNoBars() {
        sentence("told: 2 unlike letters of the TEXT");
        due("a bar is none", on("a|a").told(2), 1);
        due("all", on("hgfedcba|abcdefgh").told(2), 8);
        BothEnds x = on("abc");
        text(x, "d");
        due("those of a former text are none", x.told(2), 1);
    }

    private static void signOfEnd() {
        sentence("sign: the SIGN of a PLACE (its byte; 0: END)");
        BothEnds x = on("h|a");
        int[] signs = {'h', '|', 'a', 0};
        for (int place = 0; place < 4; place++) due("sign " + place, x.sign(place), signs[place]);
        text(x, "b");
        due("END of a shorter text", x.sign(1), 0);
    }

    private static void signOfNoPlace() {
        sentence("sign: NoSuchElementException: no such PLACE");
        BothEnds x = on("h|a");
        refusesEach("sign", MISSING, x::sign, -1, 4, 240, LEAST, GREATEST);
        due("counted", x.status(0), 5);
        text(x, "b");
        refuses("one of a former text", MISSING, () -> x.sign(2));
        refuses("of a full text", MISSING, () -> on("a".repeat(240)).sign(241));
    }

    private static void rowOfNoSideOrRow() {
        sentence("row: NoSuchElementException: no such side, ROW (ahead of others)");
        BothEnds x = on("h|a");
        refusesEach("side", MISSING, side -> x.row(side, 0, 0), -1, 2, LEAST, GREATEST);
        refusesEach("row", MISSING, row -> x.row(0, row, 0), -1, 4, LEAST, GREATEST);
        refusesEach("row of side 1", MISSING, row -> x.row(1, row, 0), -1, 4);
        refuses("side ahead of what", MISSING, () -> x.row(2, 0, 7));
        refuses("row ahead of what", MISSING, () -> x.row(0, 4, -1));
        due("counted", x.status(0), 12);
        due("counted", x.status(1), 0);
    }

    private static void rowOfAnotherWhat() {
        sentence("row: IllegalArgumentException: another argument");
        BothEnds x = on("h|a");
        refusesEach("what", ARGUMENT, what -> x.row(1, 3, what), -1, 7, LEAST, GREATEST);
    }

    private static void endIsUnlikeAll() {
        sentence("row: 6 with how many signs it begins as the ROW ahead of it does (END is unlike all; 0 of ROW 0)");
        BothEnds x = on("aaa");
        int[] alike = {0, 0, 1, 2};
        for (int side = 0; side < 2; side++) {
            for (int row = 0; row < 4; row++) due("row " + row, x.row(side, row, 6), alike[row]);
        }
        BothEnds y = on("a|a|a");
        // Of END, "|a$", "|a|a$", "a$", "a|a$", "a|a|a$".
        int[] across = {0, 0, 2, 0, 1, 3};
        for (int row = 0; row < 6; row++) due("across bars " + row, y.row(0, row, 6), across[row]);
        due("all but one", on("a".repeat(240)).row(0, 240, 6), 239);
        text(x, "b");
        due("row 0 of a new text", x.row(0, 0, 6), 0);
        due("nothing alike in it", x.row(0, 1, 6), 0);
    }

    private static void rowOfNoPlace() {
        sentence("rowOf: the ROW of a PLACE (0 to N) of a side; NoSuchElementException");
        BothEnds x = on("ba");
        int[] rows = {2, 1, 0};
        for (int place = 0; place < 3; place++) due("of place " + place, x.rowOf(0, place), rows[place]);
        int[] back = {1, 2, 0};
        for (int place = 0; place < 3; place++) due("of place " + place + " of side 1", x.rowOf(1, place), back[place]);
        refusesEach("place", MISSING, place -> x.rowOf(0, place), -1, 3, LEAST, GREATEST);
        refusesEach("place of side 1", MISSING, place -> x.rowOf(1, place), -1, 3);
        refusesEach("side", MISSING, side -> x.rowOf(side, 0), -1, 2, LEAST, GREATEST);
    }

    private static void countAheadOfARow() {
        sentence("count: ROWS of a side ahead of a ROW (0 to N and 1)");
        BothEnds x = on("ab|a");
        // BEFORES of side 0, of places 4, 2, 3, 0, 1: a, b, |, END, a.
        int[] as = {0, 1, 1, 1, 1, 2};
        int[] bs = {0, 0, 1, 1, 1, 1};
        for (int row = 0; row < 6; row++) {
            due("a ahead of " + row, x.count(0, row, 'a'), as[row]);
            due("b ahead of " + row, x.count(0, row, 'b'), bs[row]);
            due("h ahead of " + row, x.count(0, row, 'h'), 0);
        }
        due("all of side 1", x.count(1, 5, 'a'), 2);
        due("none ahead of row 0 of side 1", x.count(1, 0, 'a'), 0);
        refusesEach("row", MISSING, row -> x.count(0, row, 'a'), -1, 6, LEAST, GREATEST);
        refusesEach("row of side 1", MISSING, row -> x.count(1, row, 'a'), -1, 6);
        refusesEach("side", MISSING, side -> x.count(side, 0, 'a'), -1, 2, LEAST, GREATEST);
        refuses("row ahead of letter", MISSING, () -> x.count(0, 6, '|'));
        refuses("side ahead of letter", MISSING, () -> x.count(2, 0, 'i'));
    }

    private static void countOfNoLetter() {
        sentence("count: IllegalArgumentException: another argument (letter)");
        BothEnds x = on("ab|a");
        refusesEach("letter", ARGUMENT, letter -> x.count(0, 5, letter), '|', 0, '`', 'i', -1, 'a' + 256, LEAST, GREATEST);
        due("the last letter", on("h").count(0, 2, 'h'), 1);
    }

    // Promises 15 to 18

    private static void letterOfTheCursorThatIsNotThere() {
        sentence("letter: the k-th letter of the CURSOR; NoSuchElementException: no such letter");
        BothEnds x = on("abcabc");
        refusesEach("of an empty cursor", MISSING, x::letter, 0, -1);
        x.grow('b', 1);
        x.grow('c', 1);
        x.grow('a', 0);
        same("all", letters(x), "abc");
        refusesEach("of three", MISSING, x::letter, 3, -1, 40, LEAST, GREATEST);
        x.shrink();
        refuses("of two", MISSING, () -> x.letter(2));
        BothEnds y = grow(on("a".repeat(42)), "a".repeat(40));
        due("the last of 40", y.letter(39), 'a');
        refuses("of 40", MISSING, () -> y.letter(40));
    }

    private static void growsOf40Letters() {
        sentence("grows: 0: it has 40 letters");
        BothEnds x = grow(on("a".repeat(42)), "a".repeat(39));
        for (int what = 0; what < 2; what++) due("at 39", x.grows(what), 1);
        x.grow('a', 0);
        for (int what = 0; what < 2; what++) due("at 40", x.grows(what), 0);
        due("no refusal that counts", x.status(2), 0);
    }

    private static void growsAsBits() {
        sentence("grows: letters as bits (a is 1)");
        BothEnds x = on("ha|hb|ch");
        due("of an empty cursor", x.grows(0), 128 + 4 + 2 + 1);
        due("to the right", x.grows(1), 128 + 4 + 2 + 1);
        x.grow('h', 0);
        due("to the left", x.grows(0), 4);
        due("to the right", x.grows(1), 3);
        due("the cursor stays", x.told(7), 3);
        refusesEach("grows", ARGUMENT, x::grows, -1, 2, LEAST, GREATEST);
        due("nowhere", grow(on("a|b"), "a").grows(1), 0);
    }

    private static void hitOfNone() {
        sentence("hit: NoSuchElementException: no such hit (ahead of others)");
        BothEnds x = grow(on("ab|ab"), "ab");
        due("the last", x.hit(1, 0), 3);
        refusesEach("hit", MISSING, k -> x.hit(k, 0), -1, 2, LEAST, GREATEST);
        refuses("ahead of what", MISSING, () -> x.hit(2, 3));
        refusesEach("what", ARGUMENT, what -> x.hit(1, what), -1, 3, LEAST, GREATEST);
        x.clear();
        due("END is the last of an empty cursor", x.hit(5, 0), 5);
        refuses("N and 1", MISSING, () -> x.hit(6, 0));
    }

    private static void endAndBarsAreOfDocuments() {
        sentence("hit: (END is of the last DOCUMENT, a bar of that ahead of it)");
        BothEnds x = on("ab|c|d");
        int[] documents = {0, 0, 0, 1, 1, 2, 2};
        int[] where = {0, 1, 2, 0, 1, 0, 1};
        for (int k = 0; k < 7; k++) {
            due("place " + k, x.hit(k, 0), k);
            due("document of " + k, x.hit(k, 1), documents[k]);
            due("where " + k, x.hit(k, 2), where[k]);
        }
        due("hits in document 0", x.document(0, 2), 3);
        due("hits in document 2", x.document(2, 2), 2);
    }

    private static void gapsOfFewerThanTwo() {
        sentence("hits: 1 the least gap .. (NONE: there are not two), 2 the greatest gap (NONE)");
        BothEnds x = grow(on("abab|cab"), "c");
        due("least of one", x.hits(1), -1);
        due("greatest of one", x.hits(2), -1);
        due("documents of one", x.hits(0), 1);
        x.clear();
        grow(x, "aba");
        due("least of one", x.hits(1), -1);
        due("greatest of one", x.hits(2), -1);
        x.clear();
        grow(x, "ab");
        due("least of three: 0, 2, 6", x.hits(1), 2);
        due("greatest of three", x.hits(2), 4);
        due("of END and a", new BothEnds().hits(1), 1);
        due("of END and a", new BothEnds().hits(2), 1);
    }

    private static void overlapsOfHits() {
        sentence("hits: 3 how many overlap the next one (its PLACE is less than as many letters as the CURSOR has behind)");
        due("aa in aaaa", grow(on("aaaa"), "aa").hits(3), 2);
        due("as far behind as it has letters", grow(on("abab"), "ab").hits(3), 0);
        due("one less", grow(on("ababa"), "aba").hits(3), 1);
        due("the last has no next one", grow(on("ab"), "ab").hits(3), 0);
        due("one letter", grow(on("aaaa"), "a").hits(3), 0);
    }

    private static void anEmptyCursorOverlapsNothing() {
        sentence("hits: 3 .. an empty CURSOR: 0");
        BothEnds x = on("aaaa");
        due("overlaps", x.hits(3), 0);
        due("documents", x.hits(0), 1);
        due("all documents", on("a|b|c").hits(0), 3);
        refusesEach("hits", ARGUMENT, x::hits, -1, 4, LEAST, GREATEST);
    }

    // Promise 19

    private static void oftenOfNoBytes() {
        sentence("often: IllegalArgumentException: also n is not 1 to its bytes");
        BothEnds x = on("aaa");
        refusesEach("of an empty tape", ARGUMENT, x::often, 0, 1, -1);
        feed(x, "a".repeat(20));
        refusesEach("of 20", ARGUMENT, x::often, 0, 21, -1, LEAST, GREATEST);
        due("all 20", x.often(20), 0);
        due("the first", x.often(1), 3);
        due("overlapping ones", x.often(2), 2);
    }

    private static void oftenOfNoLetters() {
        sentence("often: .. or they are not letters a to h alone");
        BothEnds x = on("a|a");
        for (String s : new String[] {"|", "a|a", "i", "`", "aA"}) {
            empty(x);
            feed(x, s);
            refuses("often " + s, ARGUMENT, () -> x.often(s.length()));
        }
        empty(x);
        feed(x, "a|a");
        due("ahead of the bar", x.often(1), 2);
        empty(x);
        feed(x, "hh");
        due("letters that are not there", x.often(2), 0);
    }

    private static void oftenOfOnesThatStandAnywhere() {
        sentence("often: how often the first n bytes stand in the TEXT");
        String[] strings = {"a", "b", "ab", "bb", "abb", "bba", "b", "ba", "h"};
        int[] often = {2, 3, 2, 1, 1, 0, 3, 0, 0};
        BothEnds x = on("ab|abb");
        for (int i = 0; i < strings.length; i++) {
            empty(x);
            feed(x, strings[i]);
            due("often " + strings[i], x.often(strings[i].length()), often[i]);
        }
    }

    private static void oftenLeavesTheTape() {
        sentence("often: the TAPE (that stays)");
        BothEnds x = on("a|a");
        feed(x, "ab|a");
        x.often(2);
        due("bytes", x.told(12), 20);
        refuses("often", ARGUMENT, () -> x.often(3));
        due("bytes of one refused", x.told(12), 20);
        due("they are the same", x.text(4), 0);
        same("signs", signs(x), "ab|a");
    }

    public static void main(String[] args) {
        aTextHasOneSignAtLeast();
        aTextHas240SignsAtMost();
        lettersAreAToH();
        noBarAtTheBeginning();
        noBarAtTheEnd();
        noBarBehindABar();
        documentsAreNumberedFrom0();
        endIsAheadOfTheBarAndThatOfA();
        row0IsThatOfPlaceN();
        side1HasPlacesOfItsOwn();
        thereAreNAnd1RowsOfEachSide();
        beforeOfPlace0IsEnd();
        place0WalksToRow0();
        stepIs1To16And4AtFirst();
        wayIs0OfANotedRow();
        spansOfAnEmptyPattern();
        aNewObject();
        theHighestByteComesFirst();
        bytesAreNotNegative();
        bytesComeBehindThoseThere();
        noMoreThan240Bytes();
        textTakes1ToItsBytes();
        textEmptiesTheTape();
        textInPlaceOfThatThereIs();
        textTellsTheFirstPlaceThatIsNotSo();
        textThatIsNotSoChangesNothing();
        textOfAnotherNIsRefused();
        stepFromNowOn();
        growOfALetterThatIsNone();
        growToNoSide();
        growThatIsRefusedStays();
        theCursorHas40LettersAtMost();
        growWithBothWrong();
        shrinkOfAnEmptyCursor();
        shrinkTakesTheLatest();
        clearAnswersHowManyLettersItHad();
        toldOfWhatIsNotThere();
        toldOfTheResult();
        unlikeLettersAreNoBars();
        signOfEnd();
        signOfNoPlace();
        rowOfNoSideOrRow();
        rowOfAnotherWhat();
        endIsUnlikeAll();
        rowOfNoPlace();
        countAheadOfARow();
        countOfNoLetter();
        letterOfTheCursorThatIsNotThere();
        growsOf40Letters();
        growsAsBits();
        hitOfNone();
        endAndBarsAreOfDocuments();
        gapsOfFewerThanTwo();
        overlapsOfHits();
        anEmptyCursorOverlapsNothing();
        oftenOfNoBytes();
        oftenOfNoLetters();
        oftenOfOnesThatStandAnywhere();
        oftenLeavesTheTape();
        end("TextEdgesTest");
    }
}
