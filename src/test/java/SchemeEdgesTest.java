/** The boundary cases of schemes and of searches by them (Terms 2; promises 4, 5 and 20 to 27), each sentence by itself. */
public final class SchemeEdgesTest extends Check {
    private static final int LEAST = Integer.MIN_VALUE;
    private static final int GREATEST = Integer.MAX_VALUE;
    private static final String ONE = "0 0 0;";

    private static void takes(String scheme, int searches, int parts, int budget) {
        BothEnds x = new BothEnds();
        due("scheme '" + scheme + "'", scheme(x, scheme), searches);
        due("fault of '" + scheme + "'", x.fault(), -1);
        due("searches of '" + scheme + "'", x.told(9), searches);
        due("parts of '" + scheme + "'", x.told(10), parts);
        due("budget of '" + scheme + "'", x.told(11), budget);
    }

    private static String digits(BothEnds x) {
        StringBuilder s = new StringBuilder();
        for (int search = 0; search < x.told(9); search++) {
            for (int what = 0; what < 3; what++) {
                for (int k = 0; k < x.told(10); k++) s.append(x.digit(search, k, what));
                s.append(what < 2 ? ' ' : ';');
            }
        }
        return s.toString();
    }

    // A fault leaves the scheme that there is, and the tape is empty.
    private static void fails(String scheme, int fault, int place) {
        BothEnds x = new BothEnds();
        scheme(x, "10 01 12;01 00 03;");
        due("scheme '" + scheme + "'", scheme(x, scheme), fault - 10);
        due("fault of '" + scheme + "'", x.fault(), place);
        same("digits behind '" + scheme + "'", digits(x), "10 01 12;01 00 03;");
        due("budget behind '" + scheme + "'", x.told(11), 3);
        due("tape behind '" + scheme + "'", x.told(12), 0);
    }

    // Terms: what a scheme is

    private static void oneToEightSearches() {
        sentence("A SCHEME: { SEARCH \";\" }, 1 to 8 of them");
        takes(ONE, 1, 1, 0);
        takes(ONE.repeat(7) + "0 0 1;", 8, 1, 1);
        takes("43210 00000 44444;".repeat(8), 8, 5, 4);
        fails(" ", 1, 1);
        fails(" ".repeat(240), 1, 240);
        fails(";", 1, 0);
    }

    private static void oneToFiveDigits() {
        sentence("SEARCH: each a row of P digits (1 to 5)");
        takes("0 4 4;", 1, 1, 4);
        takes("01 00 00;", 1, 2, 0);
        takes("01234 01234 44444;", 1, 5, 4);
        fails("012345 000000 000000;", 3, 5);
    }

    private static void oneBlankOrMoreBetween() {
        sentence("SEARCH: with one blank (32) or more between the three");
        takes("0     0          1;", 1, 1, 1);
        takes("0" + " ".repeat(117) + "0" + " ".repeat(119) + "1;", 1, 1, 1);
        fails("0\t0 0;", 1, 1);
        fails("0,0 0;", 1, 1);
        fails("0 0\u00000;", 1, 3);
        fails("0;0 0;", 1, 1);
    }

    private static void blanksAhead() {
        sentence("blanks may stand ahead of ORDER and of \";\", and at the end");
        takes("   0 0 1;", 1, 1, 1);
        takes("0 0 1   ;", 1, 1, 1);
        takes("0 0 1;   ", 1, 1, 1);
        takes("0 0 1;  0 0 2  ;", 2, 1, 2);
        takes(ONE.repeat(8) + " ".repeat(192), 8, 1, 0);
    }

    private static void orderHasEachDigitOnce() {
        sentence("ORDER: each of the digits 0 to P less 1 once");
        fails("1 0 0;", 2, 0);
        fails("00 00 00;", 2, 1);
        fails("010 000 000;", 2, 2);
        fails("12 00 00;", 2, 1);
        fails("01235 00000 00000;", 2, 4);
        fails(":", 1, 0);
        fails("/", 1, 0);
    }

    private static void orderGoesToANeighbour() {
        sentence("ORDER: each one behind the first next to one that stands ahead of it (1 more or less)");
        for (String order : new String[] {"01234", "43210", "21034", "23104", "12034"}) takes(order + " 00000 00001;", 1, 5, 1);
        fails("02 00 00;", 2, 1);
        fails("021 000 000;", 2, 1);
        fails("03214 00000 00000;", 2, 1);
        fails("10423 00000 00000;", 2, 2);
        fails("32401 00000 00000;", 2, 3);
    }

    private static void boundsAre0To4() {
        sentence("LEAST, MOST: digits 0 to 4");
        takes("0 4 4;", 1, 1, 4);
        takes("0 0 4;", 1, 1, 4);
        fails("0 5 5;", 2, 2);
        fails("0 0 5;", 2, 4);
        fails("0 9 9;", 2, 2);
        fails("01 05 44;", 2, 4);
    }

    private static void boundsDoNotFall() {
        sentence("LEAST, MOST: none less than the one ahead of it");
        takes("012 011 244;", 1, 3, 4);
        fails("01 10 44;", 2, 4);
        fails("01 00 43;", 2, 7);
        fails("012 012 332;", 2, 10);
    }

    private static void mostIsNotBelowLeast() {
        sentence("MOST not less than LEAST at the same place");
        takes("01 13 13;", 1, 2, 3);
        fails("0 1 0;", 2, 4);
        fails("01 11 01;", 2, 6);
        fails("01 03 02;", 2, 7);
    }

    // Terms: faults

    private static void theFirstFaultFromTheLeft() {
        sentence("FAULTS, the first from the left, at its byte");
        fails("02 05 x", 2, 1);
        fails("01 05 x", 2, 4);
        fails("01 x0 55;", 1, 3);
        fails("543210", 2, 0);
        fails("0x", 1, 1);
        fails("0 0 0;0 0 0;0 9 x;", 2, 14);
    }

    private static void whatCantStandThere() {
        sentence("FAULTS: 1 what can't stand there");
        fails("x 0 0;", 1, 0);
        fails("  x", 1, 2);
        fails("0 x 0;", 1, 2);
        fails("0 0 x;", 1, 4);
        fails("0 0 0x;", 1, 5);
        fails("0 0 0 x", 1, 6);
        fails("0 0 0 0;", 1, 6);
        fails("0 0 0;x", 1, 6);
        fails("0 0 0;;", 1, 6);
        fails("-0 0 0;", 1, 0);
        fails("0 0 \u00b0;", 1, 4);
        fails("0 0 0\u00bb", 1, 5);
        fails("0 0 0;\u0000", 1, 6);
    }

    private static void theTextEndsTooEarly() {
        sentence("FAULTS: 1 at the length, if the text ends too early");
        String whole = " 01 00 01 ;";
        for (int n = 1; n < whole.length(); n++) {
            // A single 0 is a whole row of one digit, so here too the end alone is wrong.
            fails(whole.substring(0, n), 1, n);
        }
        fails(" ".repeat(239) + "0", 1, 240);
        fails(ONE + "0", 1, 7);
        fails(ONE + "0 0 0", 1, 11);
        fails("01 00 01;0", 1, 10);
    }

    private static void theTextEndsWhereNSays() {
        sentence("scheme: the first n bytes of the TAPE (a text that goes on behind them)");
        BothEnds x = new BothEnds();
        feed(x, "0 0 1;0 0 2;");
        due("the first search alone", x.scheme(6), 1);
        due("budget", x.told(11), 1);
        feed(x, "0 0 1;0 0 2;");
        due("without its end", x.scheme(11), -9);
        due("fault", x.fault(), 11);
        due("budget stays", x.told(11), 1);
    }

    private static void aRowEndsTooSoon() {
        sentence("FAULTS: 1 a row's end that comes too soon: at it");
        fails("01 0 00;", 1, 4);
        fails("01 00 0;", 1, 7);
        fails("012 000 00 ;", 1, 10);
        fails("01 00 01;0 00 00;", 1, 10);
        fails("01 00 01;01 0;", 1, 13);
        fails("01 00 01;10 01 1 ", 1, 16);
    }

    private static void aDigitMore() {
        sentence("FAULTS: 1 a digit more than the first ORDER has: at it");
        fails("0 00 0;", 1, 3);
        fails("0 0 00;", 1, 5);
        fails("0 09 0;", 1, 3);
        fails("0 0 0;01 0 0;", 1, 7);
        fails("01 00 01;012 00 00;", 1, 11);
        fails("01234 000000 0", 1, 11);
        fails("01234 00000 000009", 1, 17);
        fails("01234 00000 00000;012345 ", 1, 23);
    }

    private static void aDigitThatIsNoneSuch() {
        sentence("FAULTS: 2 a digit that is none such");
        fails("9 0 0;", 2, 0);
        fails("01 00 01;02 00 00;", 2, 10);
        fails("01 00 01;20 00 00;", 2, 9);
        fails("01 00 01;00 00 00;", 2, 10);
        fails("01 00 01;01 05 55;", 2, 13);
        fails("01 00 01;01 00 10;", 2, 16);
    }

    private static void aNinthSearch() {
        sentence("FAULTS: 3 a ninth SEARCH");
        fails(ONE.repeat(9), 3, 48);
        fails(ONE.repeat(8) + "  0 0 0;", 3, 50);
        fails(ONE.repeat(8) + "9", 3, 48);
        fails(ONE.repeat(40), 3, 48);
        fails(ONE.repeat(8) + "x", 1, 48);
        fails(ONE.repeat(8) + " ;", 1, 49);
    }

    private static void aSixthDigitOfTheFirstOrder() {
        sentence("FAULTS: 3 a sixth digit of the first ORDER");
        fails("012345", 3, 5);
        fails("432100", 3, 5);
        fails("  2103499 0 0;", 3, 7);
    }

    // Promises 4 and 5

    private static void schemeTakes1ToItsBytes() {
        sentence("scheme: the first n bytes of the TAPE (1 to its bytes; empty then); IllegalArgumentException: another n (the TAPE stays)");
        BothEnds x = new BothEnds();
        refusesEach("of an empty tape", ARGUMENT, x::scheme, 0, 1, -1);
        feed(x, "0 0 1;");
        refusesEach("of 20", ARGUMENT, x::scheme, 0, 21, -1, LEAST, GREATEST);
        due("counted", x.status(1), 8);
        due("bytes", x.told(12), 20);
        due("the bytes are the same", x.scheme(6), 1);
        due("empty then", x.told(12), 0);
        due("budget", x.told(11), 1);
        feed(x, "0 0 2; ".repeat(3).substring(1, 21));
        due("all bytes of the tape, the first wrong", x.scheme(20), -9);
        feed(x, ONE + "0 0 4" + " ".repeat(8) + ";");
        due("all bytes of the tape", x.scheme(20), 2);
        due("budget", x.told(11), 4);
    }

    private static void aFullTapeIsAScheme() {
        sentence("scheme: (1 to its bytes: 240)");
        BothEnds x = new BothEnds();
        due("240 bytes", scheme(x, " ".repeat(234) + "0 0 3;"), 1);
        due("budget", x.told(11), 3);
        due("240 bytes without an end", scheme(x, " ".repeat(235) + "0 0 3"), -9);
        due("at the length", x.fault(), 240);
    }

    private static void aFaultLeavesTheResult() {
        sentence("scheme: or the FAULT less 10 (all stays). The RESULT stays");
        BothEnds x = on("abab|ab");
        grow(x, "b");
        search(x, "ab");
        matches(x, "ab", 1);
        due("a fault", scheme(x, "0 0"), -9);
        due("a fault", scheme(x, "0 9"), -8);
        due("a fault", scheme(x, ONE.repeat(9)), -7);
        due("no refusal that counts", x.status(0) + x.status(1) + x.status(2), 0);
        due("result", x.told(13), 3);
        due("cursor", x.told(4), 1);
        due("match", x.match(0, 1), 2);
        due("another scheme", scheme(x, "012 000 012;"), 1);
        due("result", x.told(13), 3);
        due("its letters", x.result(4), 2);
        due("its places", x.found(2, 0), 5);
        due("cursor", x.told(4), 1);
        due("match", x.match(0, 1), 2);
    }

    private static void aFaultReadHalfwayLeavesTheScheme() {
        sentence("scheme: (all stays), of a text whose last search is wrong");
        BothEnds x = new BothEnds();
        for (int i = 0; i < 3; i++) {
            due("scheme", scheme(x, "10 01 12;01 00 03;"), 2);
            due("fault at the end", scheme(x, "0123 1111 4444;3210 1111 444"), -9);
            same("digits", digits(x), "10 01 12;01 00 03;");
            due("shares", x.shares(0), 10);
            due("fault of no order", scheme(x, "x"), -9);
            same("digits", digits(x), "10 01 12;01 00 03;");
        }
    }

    private static void faultOfTheLatestScheme() {
        sentence("fault: the place of the FAULT of the latest scheme(); NONE without");
        BothEnds x = new BothEnds();
        due("at first", x.fault(), -1);
        scheme(x, "x");
        due("at the first byte", x.fault(), 0);
        scheme(x, "0 0");
        due("at the length", x.fault(), 3);
        refuses("scheme", ARGUMENT, () -> x.scheme(1));
        due("behind one refused", x.fault(), 3);
        text(x, "ab");
        due("behind text()", x.fault(), 3);
        scheme(x, ONE);
        due("none any more", x.fault(), -1);
    }

    // Promises 20 to 23

    private static void sharesOfNoBudget() {
        sentence("SHARES: all rows of P numbers (0 to BUDGET each) that are BUDGET at most together");
        String[] schemes = {ONE, "01234 00000 00000;", "0 4 4;", "01 00 04;", "01234 00000 00001;", "01234 00000 44444;"};
        int[] shares = {1, 1, 5, 15, 6, 126};
        for (int i = 0; i < schemes.length; i++) {
            BothEnds x = new BothEnds();
            scheme(x, schemes[i]);
            due("shares of " + schemes[i], x.shares(0), shares[i]);
        }
        due("of a new object", new BothEnds().shares(0), 1);
    }

    private static void budgetIsTheGreatestLastDigit() {
        sentence("BUDGET of a SCHEME: the greatest last digit of its MOSTS");
        takes("01 00 04;01 00 01;", 2, 2, 4);
        takes("01 00 01;01 00 04;", 2, 2, 4);
        takes("01 00 00;10 00 00;", 2, 2, 0);
    }

    private static void coversFromLeastToMost() {
        sentence("COVERS: together k-th of LEAST at least, k-th of MOST at most");
        BothEnds x = new BothEnds();
        scheme(x, "0 2 3;");
        due("0 and 1 are not", x.shares(1), 2);
        scheme(x, "10 01 12;");
        // Of six, those with 0 or 1 on part 1 and 1 or 2 in all: 1 0; 2 0; 0 1; 1 1.
        due("two are not", x.shares(1), 2);
        scheme(x, "01 12 14;10 00 02;");
        // Of fifteen the first takes 1 1, 1 2, 1 3; the second 0 0, 1 0, 2 0.
        due("nine are not", x.shares(1), 9);
        due("none twice", x.shares(2), 0);
        scheme(x, "0 0 3;0 1 2;0 2 3;");
        due("1, 2 and 3 by more than one", x.shares(2), 3);
        refusesEach("shares", ARGUMENT, x::shares, -1, 3, LEAST, GREATEST);
    }

    private static void soundIsByOneAndByNoOther() {
        sentence("SOUND, if each SHARE is COVERED by one SEARCH, and by no other one");
        String[] schemes = {ONE, "0 1 1;", "0 0 1;0 1 1;", "0 0 0;0 1 4;", "01 00 01;10 01 01;", "01 00 11;10 00 01;"};
        boolean[] sound = {true, false, false, true, true, false};
        due("a new object", new BothEnds().sound(), true);
        for (int i = 0; i < schemes.length; i++) {
            BothEnds x = new BothEnds();
            scheme(x, schemes[i]);
            due("sound " + schemes[i], x.sound(), sound[i]);
        }
    }

    private static void sharesAskedAgain() {
        sentence("shares, sound, needless: asked again, and of another SCHEME");
        BothEnds x = new BothEnds();
        int[][] due = {{2, 0, 2, 0, 3}, {1, 0, 0, 1, 0}, {3, 2, 0, 0, 0}, {2, 0, 1, 0, 1}};
        String[] schemes = {"0 0 1;0 0 1;", ONE, "0 2 2;", "0 0 0;0 0 1;"};
        for (int turn = 0; turn < 12; turn++) {
            int[] want = due[turn % 4];
            scheme(x, schemes[turn % 4]);
            for (int again = 0; again < 2; again++) {
                for (int what = 0; what < 3; what++) due("shares " + what + " of " + schemes[turn % 4], x.shares(what), want[what]);
                due("sound " + schemes[turn % 4], x.sound(), want[3] == 1);
                due("needless " + schemes[turn % 4], x.needless(), want[4]);
            }
        }
    }

    private static void needlessAlone() {
        sentence("needless: SEARCHES (bits) without each of which, alone, as many SHARES are COVERED (BUDGET as it is)");
        String[] schemes = {ONE, "0 1 1;", ONE + ONE, ONE.repeat(8), "0 0 4;" + ONE.repeat(7), "0 0 1;0 1 2;0 0 2;", "0 0 0;0 0 1;"};
        int[] needless = {0, 0, 3, 255, 254, 7, 1};
        due("a new object", new BothEnds().needless(), 0);
        for (int i = 0; i < schemes.length; i++) {
            BothEnds x = new BothEnds();
            scheme(x, schemes[i]);
            due("needless " + schemes[i], x.needless(), needless[i]);
        }
    }

    private static void digitOfNoSearch() {
        sentence("digit: NoSuchElementException (search, k), ahead of IllegalArgumentException (what)");
        BothEnds x = new BothEnds();
        refusesEach("search of a new object", MISSING, search -> x.digit(search, 0, 0), 1, -1);
        refusesEach("k of a new object", MISSING, k -> x.digit(0, k, 0), 1, -1);
        scheme(x, "43210 00001 00244;".repeat(8));
        due("the last of order", x.digit(7, 4, 0), 0);
        due("the last of least", x.digit(7, 4, 1), 1);
        due("the last of most", x.digit(7, 4, 2), 4);
        refusesEach("search", MISSING, search -> x.digit(search, 0, 0), 8, -1, LEAST, GREATEST);
        refusesEach("k", MISSING, k -> x.digit(0, k, 0), 5, -1, LEAST, GREATEST);
        refuses("search ahead of what", MISSING, () -> x.digit(8, 0, 3));
        refuses("k ahead of what", MISSING, () -> x.digit(0, 5, -1));
        refusesEach("what", ARGUMENT, what -> x.digit(0, 0, what), 3, -1, LEAST, GREATEST);
        scheme(x, ONE);
        refuses("a search of a former scheme", MISSING, () -> x.digit(1, 0, 0));
        refuses("a digit of a former scheme", MISSING, () -> x.digit(0, 1, 0));
    }

    // Promise 24

    private static void searchOfTooFewLetters() {
        sentence("search: as many as parts at least");
        BothEnds x = on("abcdeabcde");
        scheme(x, "01234 00000 00000;");
        feed(x, "abcdeabcde");
        refusesEach("search", ARGUMENT, x::search, 4, 1, 0, -1, LEAST);
        due("bytes", x.told(12), 20);
        due("five", x.search(5), 2);
        due("empty then", x.told(12), 0);
        scheme(x, ONE);
        due("one", search(x, "e"), 2);
    }

    private static void searchOfTooManyLetters() {
        sentence("search: 24 at most");
        BothEnds x = on("a".repeat(30));
        feed(x, "a".repeat(40));
        refusesEach("search", ARGUMENT, x::search, 25, 40, 41, GREATEST);
        due("bytes", x.told(12), 40);
        due("24", x.search(24), 7);
        due("its letters", x.result(4), 24);
    }

    private static void searchOfMoreThanTheTapeHas() {
        sentence("search: the first n bytes of the TAPE");
        BothEnds x = on("ab|ab");
        refusesEach("of an empty tape", ARGUMENT, x::search, 0, 1);
        feed(x, "ab".repeat(10));
        refuses("21 of 20", ARGUMENT, () -> x.search(21));
        due("20 of 20", x.search(20), 0);
        feed(x, "ab?");
        due("the first alone", x.search(2), 2);
    }

    private static void searchOfNoLetters() {
        sentence("search: letters a to h alone");
        BothEnds x = on("a|a");
        for (String s : new String[] {"|", "a|a", "i", "`", "aA", "a "}) {
            feed(x, s);
            refuses("search " + s, ARGUMENT, () -> x.search(s.length()));
            due("bytes", x.told(12), 20);
            empty(x);
        }
        due("no result", x.told(13), -1);
        due("letters that are not there", search(x, "h"), 0);
    }

    private static void searchThatIsRefusedChangesNothing() {
        sentence("search: (IllegalArgumentException: not so; the TAPE stays)");
        BothEnds x = on("ab|ab");
        search(x, "ab");
        feed(x, "b?a");
        refusesEach("search", ARGUMENT, x::search, 2, 25, 0);
        due("result", x.told(13), 2);
        due("its letters", x.result(4), 2);
        due("counted", x.status(1), 3);
        due("the tape is the same", x.search(1), 2);
        due("its first place", x.found(0, 0), 1);
    }

    // Terms: parts and runs

    private static void partsAreCut() {
        sentence("PARTS: from letter i times m by P (cut) to ahead of letter (i and 1) times m by P (cut)");
        BothEnds x = on("abcdefgh");
        scheme(x, "012 000 001;");
        // Of 8 letters in 3 parts: 2, 3 and 3; a mismatch may be in the last part alone.
        due("the 6th letter", search(x, "abcdeagh"), 1);
        due("bits", x.found(0, 3), 32);
        due("the 5th letter is of the part ahead", search(x, "abcdafgh"), 0);
        scheme(x, "102 000 011;");
        due("the first letter", search(x, "hbcdefgh"), 1);
        due("the 3rd letter is of the part in the middle", search(x, "abhdefgh"), 0);
        scheme(x, "01234 00000 00001;");
        // Of 8 in 5: 1, 2, 1, 2, 2.
        due("the 7th letter", search(x, "abcdefah"), 1);
        due("the 6th letter", search(x, "abcdeagh"), 0);
    }

    private static void theFirstPartFromTheLeftOn() {
        sentence("RUN: of the first one its letters from the left on");
        BothEnds x = on("ab|ab");
        search(x, "ah");
        due("a is tried, h is not there", x.result(1), 1);
        search(x, "ha");
        due("h is not there: nothing is tried", x.result(1), 0);
        scheme(x, "10 00 00;");
        search(x, "aaah");
        due("of part 1, ah, a is tried", x.result(1), 1);
    }

    private static void aPartToTheLeftFromItsLastLetterOn() {
        sentence("RUN: one to the left from its last letter on, growing to the left");
        BothEnds x = on("abcd|bbcd");
        scheme(x, "10 00 00;");
        due("found", search(x, "abcd"), 1);
        due("place", x.found(0, 0), 0);
        due("tried c, d, b, a", x.result(1), 4);
        due("not found", search(x, "cbcd"), 0);
        due("tried c, d, b, c", x.result(1), 4);
        due("its last letter is the first that is not there", search(x, "bdcd"), 0);
        due("tried c, d, d", x.result(1), 3);
        scheme(x, "10 00 01;");
        due("with a mismatch", search(x, "dbcd"), 2);
        due("bits", x.found(1, 3), 1);
        scheme(x, "210 000 001;");
        due("two parts to the left", search(x, "aabbcd"), 0);
        due("two parts to the left", search(x, "cbcd"), 2);
    }

    private static void aPartToTheRightLikewise() {
        sentence("RUN: a part to the right of those done likewise, growing to the right");
        BothEnds x = on("abcd|abdd");
        scheme(x, "01 00 00;");
        due("found", search(x, "abdd"), 1);
        due("place", x.found(0, 0), 5);
        due("its first letter is the first that is not there", search(x, "abaa"), 0);
        due("tried a, b, a", x.result(1), 3);
        scheme(x, "102 000 001;");
        due("behind one to the left", search(x, "abca"), 1);
        due("place", x.found(0, 0), 0);
        due("bits", x.found(0, 3), 8);
    }

    private static void lettersThatTheTextHas() {
        sentence("RUN: each letter that the TEXT has (from a on) is tried");
        BothEnds x = on("ah");
        scheme(x, "0 0 1;");
        search(x, "b");
        due("a and h are tried, both a mismatch", x.result(1), 2);
        due("found", x.told(13), 2);
        BothEnds y = on("a|a");
        search(y, "b");
        due("none to try", y.result(1), 0);
        BothEnds z = on("abcdefgh");
        scheme(z, "0 0 1;");
        search(z, "a");
        due("all eight", z.result(1), 8);
    }

    private static void notAboveMost() {
        sentence("TRIED (counted), if mismatches so far and this are not above MOST of the part");
        BothEnds x = on("abab");
        scheme(x, "01 00 01;");
        search(x, "bb");
        // b; then ba, bb.
        due("tried", x.result(1), 3);
        due("found", x.told(13), 1);
        scheme(x, "01 00 11;");
        search(x, "bb");
        // a, b; ab (another mismatch no more); ba, bb.
        due("tried", x.result(1), 5);
        due("found", x.told(13), 3);
    }

    private static void notBelowLeastWhereAPartEnds() {
        sentence("it goes on .. where a part ends, if mismatches so far are not below LEAST of it");
        BothEnds x = on("abab");
        scheme(x, "01 11 11;");
        search(x, "abab");
        // a, b; aa, ab (below LEAST: no more); ba (two mismatches) is above MOST, bb is not there.
        due("tried", x.result(1), 5);
        due("found", x.told(13), 0);
        scheme(x, "0 1 1;");
        due("one mismatch at least", search(x, "b"), 2);
        due("the first", x.found(0, 0), 0);
        scheme(x, "0 4 4;");
        due("more mismatches than letters", search(x, "bbb"), 0);
        due("tried all the same", x.result(1), 2 + 4 + 4);
    }

    private static void sizeAbove0() {
        sentence("it goes on .. if SIZE is above 0");
        BothEnds x = on("ab|ba");
        scheme(x, "0 0 1;");
        search(x, "aba");
        // a, b; aa, ab, and ba (two) no more, bb; of aa, ab, bb ab alone is there: aba, abb.
        due("tried", x.result(1), 2 + 2 + 1 + 2);
        due("no place over a bar", x.told(13), 0);
    }

    // Terms and promises 25 to 27: the result

    private static void eachPlaceOnce() {
        sentence("RESULT: PLACES FOUND, each once: with the fewest mismatches with which it was found");
        BothEnds x = on("abab");
        scheme(x, "0 1 1;0 0 1;");
        due("places", search(x, "b"), 4);
        int[] mismatches = {1, 0, 1, 0};
        int[] times = {2, 1, 2, 1};
        for (int k = 0; k < 4; k++) {
            due("place " + k, x.found(k, 0), k);
            due("mismatches " + k, x.found(k, 1), mismatches[k]);
            due("times " + k, x.found(k, 2), times[k]);
            due("bits " + k, x.found(k, 3), mismatches[k]);
        }
        due("in all", x.result(0), 6);
        scheme(x, ONE.repeat(8));
        search(x, "b");
        due("by all eight", x.found(1, 2), 8);
    }

    private static void foundOfNone() {
        sentence("found: NoSuchElementException: no such hit (ahead of others)");
        BothEnds x = on("ab|ab");
        refusesEach("without a result", MISSING, k -> x.found(k, 0), 0, -1);
        refuses("without a result, ahead of what", MISSING, () -> x.found(0, 4));
        search(x, "h");
        refuses("of a result of none", MISSING, () -> x.found(0, 0));
        search(x, "b");
        due("the last", x.found(1, 0), 4);
        refusesEach("of two", MISSING, k -> x.found(k, 0), 2, -1, LEAST, GREATEST);
        refuses("ahead of what", MISSING, () -> x.found(2, 4));
        refusesEach("what", ARGUMENT, what -> x.found(0, what), 4, -1, LEAST, GREATEST);
        text(x, "ab|ab");
        refuses("behind text()", MISSING, () -> x.found(0, 0));
    }

    private static void bitsOfMismatches() {
        sentence("found: 3 which letters of the PATTERN are mismatches there (bits; the first is 1)");
        String twentyFour = "abcdefgh".repeat(3);
        BothEnds x = on(twentyFour);
        scheme(x, "0 0 4;");
        due("search", search(x, "h" + twentyFour.substring(1, 23) + "a"), 1);
        due("the first and the 24th", x.found(0, 3), 1 | 1 << 23);
        due("mismatches", x.found(0, 1), 2);
        due("search", search(x, twentyFour), 1);
        due("none", x.found(0, 3), 0);
    }

    private static void resultOfNone() {
        sentence("result: NONE each: there is no RESULT");
        BothEnds x = on("ab");
        for (int what = 0; what < 5; what++) due("result " + what, x.result(what), -1);
        search(x, "a");
        text(x, "ab");
        for (int what = 0; what < 5; what++) due("behind text() " + what, x.result(what), -1);
    }

    private static void greatestOfNone() {
        sentence("result: 3 the greatest number of mismatches (NONE: there is none)");
        BothEnds x = on("abab");
        search(x, "h");
        int[] none = {0, 0, 0, -1, 1};
        for (int what = 0; what < 5; what++) due("result " + what, x.result(what), none[what]);
        search(x, "b");
        due("of two without", x.result(3), 0);
        scheme(x, "0 0 4;");
        search(x, "bb");
        due("of fewest ones", x.result(3), 1);
        due("those with none", x.result(2), 0);
        scheme(x, "0 4 4;");
        due("four", search(x, "baba"), 1);
        due("four", x.result(3), 4);
    }

    private static void resultOfAnotherWhat() {
        sentence("result: IllegalArgumentException: another argument");
        BothEnds x = on("ab");
        refusesEach("without a result", ARGUMENT, x::result, 5, -1, LEAST, GREATEST);
        search(x, "a");
        refusesEach("result", ARGUMENT, x::result, 5, -1, LEAST, GREATEST);
    }

    private static void ranWithoutAResult() {
        sentence("ran: NONE: there is no RESULT");
        BothEnds x = on("ab");
        for (int what = 0; what < 2; what++) due("at first", x.ran(0, what), -1);
        refusesEach("no such search ahead of it", MISSING, search -> x.ran(search, 0), 1, -1, LEAST, GREATEST);
        refusesEach("nor such a what", ARGUMENT, what -> x.ran(0, what), 2, -1, LEAST, GREATEST);
        search(x, "a");
        text(x, "ab");
        for (int what = 0; what < 2; what++) due("behind text()", x.ran(0, what), -1);
    }

    private static void ranOfFewerLettersThanParts() {
        sentence("ran: NONE: .. or its PATTERN has fewer letters than parts");
        BothEnds x = on("abcab");
        search(x, "abc");
        scheme(x, "0123 0000 0000;");
        for (int what = 0; what < 2; what++) due("three of four", x.ran(0, what), -1);
        refuses("no such search ahead of it", MISSING, () -> x.ran(1, 0));
        scheme(x, "012 000 000;");
        due("three of three", x.ran(0, 0), 1);
        due("tried", x.ran(0, 1), 3);
    }

    private static void ranOfNoSearch() {
        sentence("ran: NoSuchElementException (search), ahead of others");
        BothEnds x = on("abab");
        scheme(x, ONE.repeat(8));
        search(x, "b");
        due("the last", x.ran(7, 0), 2);
        refusesEach("search", MISSING, search -> x.ran(search, 0), 8, -1, LEAST, GREATEST);
        refuses("ahead of what", MISSING, () -> x.ran(8, 2));
        refusesEach("what", ARGUMENT, what -> x.ran(0, what), 2, -1, LEAST, GREATEST);
    }

    private static void ranInThought() {
        sentence("ran: of one SEARCH of the SCHEME .. in thought");
        BothEnds x = on("abab");
        search(x, "b");
        scheme(x, "0 1 1;0 0 1;");
        due("found by the first", x.ran(0, 0), 2);
        due("tried by the first", x.ran(0, 1), 2);
        due("found by the second", x.ran(1, 0), 4);
        due("the result is the same", x.told(13), 2);
        int[] result = {2, 1, 2, 0, 1};
        for (int what = 0; what < 5; what++) due("result " + what, x.result(what), result[what]);
        due("found", x.found(1, 0), 3);
        due("times", x.found(1, 2), 1);
    }

    public static void main(String[] args) {
        oneToEightSearches();
        oneToFiveDigits();
        oneBlankOrMoreBetween();
        blanksAhead();
        orderHasEachDigitOnce();
        orderGoesToANeighbour();
        boundsAre0To4();
        boundsDoNotFall();
        mostIsNotBelowLeast();
        theFirstFaultFromTheLeft();
        whatCantStandThere();
        theTextEndsTooEarly();
        theTextEndsWhereNSays();
        aRowEndsTooSoon();
        aDigitMore();
        aDigitThatIsNoneSuch();
        aNinthSearch();
        aSixthDigitOfTheFirstOrder();
        schemeTakes1ToItsBytes();
        aFullTapeIsAScheme();
        aFaultLeavesTheResult();
        aFaultReadHalfwayLeavesTheScheme();
        faultOfTheLatestScheme();
        sharesOfNoBudget();
        budgetIsTheGreatestLastDigit();
        coversFromLeastToMost();
        soundIsByOneAndByNoOther();
        sharesAskedAgain();
        needlessAlone();
        digitOfNoSearch();
        searchOfTooFewLetters();
        searchOfTooManyLetters();
        searchOfMoreThanTheTapeHas();
        searchOfNoLetters();
        searchThatIsRefusedChangesNothing();
        partsAreCut();
        theFirstPartFromTheLeftOn();
        aPartToTheLeftFromItsLastLetterOn();
        aPartToTheRightLikewise();
        lettersThatTheTextHas();
        notAboveMost();
        notBelowLeastWhereAPartEnds();
        sizeAbove0();
        eachPlaceOnce();
        foundOfNone();
        bitsOfMismatches();
        resultOfNone();
        greatestOfNone();
        resultOfAnotherWhat();
        ranWithoutAResult();
        ranOfFewerLettersThanParts();
        ranOfNoSearch();
        ranInThought();
        end("SchemeEdgesTest");
    }
}
