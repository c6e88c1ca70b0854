/** The boundary cases of matches, strings, documents and counts (Terms 3; promises 28 to 39), each sentence by itself. */
public final class StringEdgesTest extends Check {
    private static final int LEAST = Integer.MIN_VALUE;
    private static final int GREATEST = Integer.MAX_VALUE;

    private static void match(BothEnds x, int k, int... want) {
        for (int what = 0; what < 4; what++) due("match " + k + " " + what, x.match(k, what), want[what]);
    }

    private static void maximal(BothEnds x, int k, int... want) {
        for (int what = 0; what < 3; what++) due("maximal " + k + " " + what, x.maximal(k, 1, 2, what), want[what]);
    }

    // Promises 28 and 29

    private static void stretchesAtTheEndsOfQ() {
        sentence("MATCHES: .. nor with the one behind (so far as Q has these)");
        BothEnds x = on("abcabd");
        due("all of Q", matches(x, "abca", 1), 1);
        match(x, 0, 0, 4, 1, 0);
        due("a single letter", matches(x, "b", 1), 1);
        match(x, 0, 0, 1, 2, 1);
        due("at both ends, and none in the middle", matches(x, "dhd", 1), 2);
        match(x, 0, 0, 1, 1, 5);
        match(x, 1, 2, 1, 1, 5);
        due("none", matches(x, "hgh", 1), 0);
    }

    private static void stretchesInOrderOfI() {
        sentence("MATCHES: .. in order of i");
        BothEnds x = on("abc|bcd");
        due("they overlap", matches(x, "abcda", 1), 3);
        match(x, 0, 0, 3, 1, 0);
        match(x, 1, 1, 3, 1, 4);
        match(x, 2, 4, 1, 1, 0);
        due("one within the one ahead is none", matches(x, "abcc", 1), 2);
        match(x, 0, 0, 3, 1, 0);
        match(x, 1, 3, 1, 2, 2);
    }

    private static void stretchesStandInNoTwoDocuments() {
        sentence("A STRING: letters one behind the other (no bar) as they stand in the TEXT");
        BothEnds x = on("ab|cd");
        due("matches", matches(x, "abcd", 1), 2);
        match(x, 0, 0, 2, 1, 0);
        match(x, 1, 2, 2, 1, 3);
        due("strings of 3", x.strings(3), 0);
        due("common", on("ab|ab").common(0), 2);
    }

    private static void matchesOfSoManyLettersAtLeast() {
        sentence("matches: so many letters at least (1 to 240)");
        BothEnds x = on("a".repeat(240));
        due("240 of 240", matches(x, "a".repeat(240), 240), 1);
        match(x, 0, 0, 240, 1, 0);
        due("240 of 239", matches(x, "a".repeat(239), 240), 0);
        due("as many as it has", matches(x, "aabaaa", 3), 1);
        match(x, 0, 3, 3, 238, 0);
        due("one more", matches(x, "aabaaa", 4), 0);
        feed(x, "a");
        refusesEach("least", ARGUMENT, least -> x.matches(1, least), 0, 241, -1, LEAST, GREATEST);
        due("the tape stays", x.told(12), 20);
    }

    private static void matchesOfNoBytes() {
        sentence("matches: IllegalArgumentException: not so, n is not 1 to its bytes; the TAPE stays");
        BothEnds x = on("ab|ab");
        refusesEach("of an empty tape", ARGUMENT, n -> x.matches(n, 1), 0, 1, -1);
        feed(x, "ab".repeat(9) + "a|");
        refusesEach("of 20", ARGUMENT, n -> x.matches(n, 1), 0, 21, -1, LEAST, GREATEST);
        refuses("a bar among them", ARGUMENT, () -> x.matches(20, 1));
        due("bytes", x.told(12), 20);
        due("counted", x.status(1), 9);
        due("the bytes ahead of it", x.matches(19, 2), 9);
        due("empty then", x.told(12), 0);
        for (String s : new String[] {"|", "i", "`", "aA", "a "}) {
            feed(x, s);
            refuses("matches " + s, ARGUMENT, () -> x.matches(s.length(), 1));
            due("bytes", x.told(12), 20);
            empty(x);
        }
        due("the latest stay", x.match(8, 0), 16);
    }

    private static void matchOfNone() {
        sentence("match: NoSuchElementException (ahead of others)");
        BothEnds x = on("ab|ab");
        refusesEach("without matches()", MISSING, k -> x.match(k, 0), 0, -1);
        refuses("without matches(), ahead of what", MISSING, () -> x.match(0, 4));
        matches(x, "abab", 1);
        due("the last", x.match(1, 0), 2);
        refusesEach("of two", MISSING, k -> x.match(k, 0), 2, -1, LEAST, GREATEST);
        refuses("ahead of what", MISSING, () -> x.match(2, 4));
        refusesEach("what", ARGUMENT, what -> x.match(0, what), 4, -1, LEAST, GREATEST);
        matches(x, "h", 1);
        refuses("of the latest, that has none", MISSING, () -> x.match(0, 0));
    }

    private static void noMatchBehindText() {
        sentence("match: of the latest matches() (none any more behind text())");
        BothEnds x = on("ab|ab");
        matches(x, "ab", 1);
        scheme(x, "0 0 1;");
        search(x, "b");
        due("behind scheme() and search()", x.match(0, 1), 2);
        text(x, "|");
        due("behind a text that is not so", x.match(0, 1), 2);
        thrownBy(() -> x.text(0));
        due("behind a text() that was refused", x.match(0, 1), 2);
        text(x, "ab|ab");
        refuses("behind text()", MISSING, () -> x.match(0, 0));
    }

    // Promises 30 and 31

    private static void maximalAtTwoPlacesAtLeast() {
        sentence("MAXIMAL is a STRING that stands at two PLACES at least");
        due("none in a new object", new BothEnds().maximals(1, 2), 0);
        due("none at one", on("abcdefgh").maximals(1, 2), 0);
        BothEnds x = on("aa");
        due("a", x.maximals(1, 2), 1);
        maximal(x, 0, 1, 0, 2);
    }

    private static void notTheSameLetterAhead() {
        sentence("MAXIMAL .. if not all of these have the same letter ahead of them");
        BothEnds x = on("cab|cad");
        due("ca alone", x.maximals(1, 2), 1);
        maximal(x, 0, 2, 0, 2);
        BothEnds y = on("cab|cad|dad");
        due("a (behind c, c, d), ad (behind c, d), ca, d", y.maximals(1, 2), 4);
        maximal(y, 0, 1, 1, 3);
        maximal(y, 1, 2, 5, 2);
        maximal(y, 2, 2, 0, 2);
        maximal(y, 3, 1, 6, 3);
    }

    private static void theSameLetterAheadOfOthersToo() {
        sentence("MAXIMAL .. the same letter ahead (that stands ahead of others, too)");
        BothEnds x = on("aab|aab");
        due("a and aab; ab and b have a ahead", x.maximals(1, 2), 2);
        maximal(x, 0, 1, 0, 4);
        maximal(x, 1, 3, 0, 2);
    }

    private static void notTheSameLetterBehind() {
        sentence("MAXIMAL .. nor all the same letter behind");
        BothEnds x = on("bac|dac");
        due("ac alone", x.maximals(1, 2), 1);
        maximal(x, 0, 2, 1, 2);
        due("a and ac", on("bac|dac|dab").maximal(0, 1, 2, 0), 1);
    }

    private static void aBarAndTheBeginningAreNoLettersAhead() {
        sentence("MAXIMAL (a bar, the TEXT's beginning are no letters)");
        BothEnds x = on("c|ab|ad");
        due("a bar ahead of both", x.maximals(1, 2), 1);
        maximal(x, 0, 1, 2, 2);
        BothEnds y = on("ab|ad");
        due("the beginning, and a bar", y.maximals(1, 2), 1);
        maximal(y, 0, 1, 0, 2);
        BothEnds z = on("ab|cad");
        due("the beginning, and a letter", z.maximals(1, 2), 1);
    }

    private static void aBarAndEndAreNoLettersBehind() {
        sentence("MAXIMAL (nor are a bar, END)");
        BothEnds x = on("ba|da|c");
        due("a bar behind both", x.maximals(1, 2), 1);
        maximal(x, 0, 1, 1, 2);
        BothEnds y = on("ba|da");
        due("a bar, and END", y.maximals(1, 2), 1);
        maximal(y, 0, 1, 1, 2);
        due("a letter, and END", on("bac|da").maximals(1, 2), 1);
        due("what is behind the bars does not matter", on("a|b|a|b").maximals(1, 2), 2);
    }

    private static void numberedAsInADictionary() {
        sentence("They are numbered as in a dictionary (one that begins another one ahead of it)");
        BothEnds x = on("aaa|b|b|aa");
        due("a, aa, b", x.maximals(1, 2), 3);
        maximal(x, 0, 1, 0, 5);
        maximal(x, 1, 2, 0, 3);
        maximal(x, 2, 1, 4, 2);
        BothEnds full = on("a".repeat(240));
        due("as many as there can be", full.maximals(1, 2), 239);
        BothEnds y = on("abcdf|abcdg|abce|abh|ag");
        due("a, ab, abc, abcd, g", y.maximals(1, 2), 5);
        for (int k = 0; k < 4; k++) maximal(y, k, k + 1, 0, 5 - k);
        maximal(y, 4, 1, 10, 2);
        for (int k = 0; k < 239; k += 17) maximal(full, k, k + 1, 0, 240 - k);
        maximal(full, 238, 239, 0, 2);
    }

    private static void maximalsOfSoManyLetters() {
        sentence("maximals: so many letters at least (1 to 240)");
        BothEnds x = on("aaa|aa");
        due("1", x.maximals(1, 2), 2);
        due("2", x.maximals(2, 2), 1);
        due("3", x.maximals(3, 2), 0);
        due("240", x.maximals(240, 2), 0);
        refusesEach("least", ARGUMENT, least -> x.maximals(least, 2), 0, 241, -1, LEAST, GREATEST);
    }

    private static void maximalsAtSoManyPlaces() {
        sentence("maximals: stand at so many PLACES at least (2 to 241)");
        BothEnds x = on("aaa|aa");
        due("3", x.maximals(1, 3), 2);
        due("4", x.maximals(1, 4), 1);
        due("5", x.maximals(1, 5), 1);
        due("6", x.maximals(1, 6), 0);
        due("241", x.maximals(1, 241), 0);
        refusesEach("often", ARGUMENT, often -> x.maximals(1, often), 1, 242, 0, -1, LEAST, GREATEST);
        due("240", on("a".repeat(240)).maximals(1, 240), 1);
    }

    private static void maximalOfNone() {
        sentence("maximal: (NoSuchElementException behind IllegalArgumentException of least, often, what)");
        BothEnds x = on("aaa|aa");
        refusesEach("k", MISSING, k -> x.maximal(k, 1, 2, 0), 2, -1, LEAST, GREATEST);
        due("the k-th of these", x.maximal(0, 2, 2, 0), 2);
        refuses("of these", MISSING, () -> x.maximal(1, 2, 2, 0));
        refuses("of none", MISSING, () -> x.maximal(0, 240, 241, 2));
        refusesEach("least", ARGUMENT, least -> x.maximal(9, least, 2, 0), 0, 241, -1, LEAST, GREATEST);
        refusesEach("often", ARGUMENT, often -> x.maximal(9, 1, often, 0), 1, 242, -1, LEAST, GREATEST);
        refusesEach("what", ARGUMENT, what -> x.maximal(-1, 1, 2, what), 3, -1, LEAST, GREATEST);
        refusesEach("what of one that is there", ARGUMENT, what -> x.maximal(0, 1, 2, what), 3, -1);
        due("counted", x.status(0), 6);
        due("counted", x.status(1), 16);
    }

    // Promises 32 to 36

    private static void stringsOf1To240Letters() {
        sentence("strings: unlike STRINGS of so many letters (1 to 240)");
        BothEnds x = on("ab".repeat(120));
        due("1", x.strings(1), 2);
        due("239", x.strings(239), 2);
        due("240", x.strings(240), 1);
        refusesEach("strings", ARGUMENT, x::strings, 0, 241, -1, LEAST, GREATEST);
        BothEnds y = on("ab|ab|ba");
        due("as long as a document", y.strings(2), 2);
        due("longer", y.strings(3), 0);
        due("in a new object", new BothEnds().strings(1), 1);
    }

    private static void repeatOfNone() {
        sentence("repeat: 0 its letters (0: there is none), 1 that PLACE (NONE), 2 how often it stands there (0)");
        int[] none = {0, -1, 0};
        for (String s : new String[] {"a", "abcdefgh", "a|b|c"}) {
            for (int what = 0; what < 3; what++) due("repeat of " + s, on(s).repeat(what), none[what]);
        }
        int[] full = {239, 0, 2};
        for (int what = 0; what < 3; what++) due("repeat of 240", on("a".repeat(240)).repeat(what), full[what]);
        int[] last = {1, 0, 3};
        for (int what = 0; what < 3; what++) due("in the last row, too", on("ba|bb").repeat(what), last[what]);
        int[] bars = {1, 0, 3};
        for (int what = 0; what < 3; what++) due("not over bars", on("a|a|a").repeat(what), bars[what]);
    }

    private static void repeatOfAlikeLongOnes() {
        sentence("repeat: (of alike long ones the one with the first PLACE)");
        int[] first = {2, 1, 3};
        for (int what = 0; what < 3; what++) due("repeat", on("hcd|ab|cd|ab|cdh").repeat(what), first[what]);
        BothEnds x = on("a");
        refusesEach("repeat", ARGUMENT, x::repeat, 3, -1, LEAST, GREATEST);
    }

    private static void uniqueOfNone() {
        sentence("unique: NONE: there is none (END, a bar, too)");
        BothEnds x = on("ab|abc|b");
        int[] unique = {-1, -1, -1, 3, 2, 1, -1, -1, -1};
        for (int place = 0; place < unique.length; place++) due("unique " + place, x.unique(place), unique[place]);
        BothEnds full = on("a".repeat(240));
        due("all of 240", full.unique(0), 240);
        due("the next", full.unique(1), -1);
        due("END", full.unique(240), -1);
        due("of a new object", new BothEnds().unique(0), 1);
    }

    private static void uniqueOfNoPlace() {
        sentence("unique: NoSuchElementException: no such PLACE");
        BothEnds x = on("ab|ab");
        refusesEach("unique", MISSING, x::unique, -1, 6, LEAST, GREATEST);
        refuses("of a full text", MISSING, () -> on("a".repeat(240)).unique(241));
    }

    private static void aroundOfNone() {
        sentence("around: NONE each: there is none");
        BothEnds x = on("ab|abc|b");
        int[] letters = {-1, -1, -1, 3, 2, 1, -1, -1, -1};
        int[] begins = {-1, -1, -1, 3, 4, 5, -1, -1, -1};
        for (int place = 0; place < letters.length; place++) {
            due("letters " + place, x.around(place, 0), letters[place]);
            due("begins " + place, x.around(place, 1), begins[place]);
        }
        BothEnds full = on("a".repeat(240));
        for (int place = 0; place < 240; place += 239) {
            due("all of 240", full.around(place, 0), 240);
            due("begins", full.around(place, 1), 0);
        }
        due("END", full.around(240, 0), -1);
        due("END", full.around(240, 1), -1);
    }

    private static void aroundOfAlikeOnes() {
        sentence("around: of alike ones the one that begins first");
        BothEnds x = on("cadbca|ad|c");
        // Around the d (place 2): db, at 2; ad stands twice. Around the b: b itself.
        due("letters", x.around(2, 0), 2);
        due("begins", x.around(2, 1), 2);
        due("letters", x.around(3, 0), 1);
        // Around the b between two a: ab and ba are there once each.
        BothEnds y = on("aba|b|a");
        due("letters", y.around(1, 0), 2);
        due("the first of two", y.around(1, 1), 0);
    }

    private static void aroundOfNoPlace() {
        sentence("around: NoSuchElementException: no such PLACE, ahead of others");
        BothEnds x = on("ab|ab");
        refusesEach("around", MISSING, place -> x.around(place, 0), -1, 6, LEAST, GREATEST);
        refuses("ahead of what", MISSING, () -> x.around(6, 2));
        refusesEach("what", ARGUMENT, what -> x.around(0, what), 2, -1, LEAST, GREATEST);
        refusesEach("what of a place where there is none", ARGUMENT, what -> x.around(5, what), 2, -1);
    }

    private static void commonOfNone() {
        sentence("common: 0 its letters (0: there is none), 1 that PLACE (NONE)");
        for (String s : new String[] {"a|b", "ab|bc|ca", "ab|cd|ab"}) {
            due("letters of " + s, on(s).common(0), 0);
            due("place of " + s, on(s).common(1), -1);
        }
        due("a single letter", on("ab|cb").common(0), 1);
        due("its place", on("ab|cb").common(1), 1);
        due("one document has all of itself", on("abab").common(0), 4);
        due("its place", on("abab").common(1), 0);
        due("120 documents", on("a|".repeat(119) + "ba").common(0), 1);
        due("240 letters", on("a".repeat(240)).common(0), 240);
    }

    private static void commonBehindOthers() {
        sentence("common: of the TEXT, whatever was asked ahead of it");
        BothEnds x = on("abab|ab");
        matches(x, "abab", 1);
        due("letters behind matches()", x.common(0), 2);
        due("place behind matches()", x.common(1), 0);
        due("match behind common()", x.match(0, 1), 4);
        text(x, "ab|c");
        due("none in another text", x.common(0), 0);
        due("none in another text", x.common(1), -1);
    }

    private static void commonOfAlikeLongOnes() {
        sentence("common: (of alike long ones the one whose first PLACE is least)");
        BothEnds x = on("hcdab|abcd|cdab");
        due("letters", x.common(0), 2);
        due("place", x.common(1), 1);
        due("the same letters twice", on("abab|ab").common(1), 0);
        refusesEach("common", ARGUMENT, x::common, 2, -1, LEAST, GREATEST);
    }

    // Promises 37 to 39

    private static void documentOfNone() {
        sentence("document: NoSuchElementException: no such DOCUMENT, ahead of others");
        BothEnds x = on("ab|c");
        refusesEach("document", MISSING, document -> x.document(document, 0), 2, -1, LEAST, GREATEST);
        refuses("ahead of what", MISSING, () -> x.document(2, 3));
        refusesEach("what", ARGUMENT, what -> x.document(1, what), 3, -1, LEAST, GREATEST);
        text(x, "ab");
        refuses("one of a former text", MISSING, () -> x.document(1, 0));
        due("the last of 120", on("a|".repeat(119) + "a").document(119, 1), 1);
        refuses("of 120", MISSING, () -> on("a|".repeat(119) + "a").document(120, 1));
    }

    private static void hitsInADocument() {
        sentence("document: 2 HITS of the CURSOR in it");
        BothEnds x = on("ab|c|aab");
        due("an empty cursor: a bar is of the document ahead of it", x.document(0, 2), 3);
        due("a bar", x.document(1, 2), 2);
        due("END is of the last one", x.document(2, 2), 4);
        grow(x, "a");
        int[] hits = {1, 0, 2};
        for (int d = 0; d < 3; d++) due("of a in " + d, x.document(d, 2), hits[d]);
    }

    private static void printOfNoSide() {
        sentence("print: NoSuchElementException: no such side");
        BothEnds x = on("ab");
        // BEFORES are b, END, a of side 0; a, b, END of side 1.
        due("side 0", x.print(0), 98L * 961 + 97);
        due("side 1", x.print(1), 97L * 961 + 98 * 31);
        refusesEach("print", MISSING, x::print, -1, 2, LEAST, GREATEST);
    }

    private static void printWrapsAround() {
        sentence("print: 31 times what there is, and BEFORE (a long that wraps around)");
        BothEnds x = on("h".repeat(240));
        java.math.BigInteger sum = java.math.BigInteger.ZERO;
        for (int row = 0; row <= 240; row++) sum = sum.multiply(java.math.BigInteger.valueOf(31)).add(java.math.BigInteger.valueOf(row < 240 ? 'h' : 0));
        due("side 0", x.print(0), sum.longValue());
        due("side 1", x.print(1), sum.longValue());
        // 14 rows are the first that go beyond a long: their BEFORES are all h but for the last.
        BothEnds y = on("h".repeat(13));
        java.math.BigInteger fourteen = java.math.BigInteger.ZERO;
        for (int row = 0; row < 14; row++) fourteen = fourteen.multiply(java.math.BigInteger.valueOf(31)).add(java.math.BigInteger.valueOf(row < 13 ? 'h' : 0));
        due("of 14 rows", y.print(0), fourteen.longValue());
        due("it is beyond a long", fourteen.bitLength() > 63, true);
    }

    private static void statusCountsEachRefusal() {
        sentence("status: how many calls were refused: 0 NoSuchElementException, 1 IllegalArgumentException, 2 IllegalStateException");
        BothEnds x = grow(on("a".repeat(41)), "a".repeat(40));
        int[] counts = {0, 0, 0};
        for (int turn = 0; turn < 9; turn++) {
            int kind = turn % 3;
            for (int i = 0; i <= kind; i++) {
                refuses("refusal", new Class<?>[] {MISSING, ARGUMENT, STATE}[kind], () -> {
                    if (kind == 0) x.sign(42);
                    if (kind == 1) x.step(0);
                    if (kind == 2) x.grow('a', 0);
                });
                counts[kind]++;
            }
            for (int what = 0; what < 3; what++) due("status " + what, x.status(what), counts[what]);
        }
        text(x, "ab");
        scheme(x, "0 0 1;");
        for (int what = 0; what < 3; what++) due("they stay behind text() and scheme() " + what, x.status(what), counts[what]);
    }

    private static void statusOf511Refusals() {
        sentence("An object is used for at most 512 calls");
        BothEnds x = new BothEnds();
        for (int i = 0; i < 511; i++) thrownBy(() -> x.told(14));
        due("the 512th", x.status(1), 511);
        BothEnds y = new BothEnds();
        for (int i = 1; i <= 512; i++) due("step " + i, y.step(1 + i % 16), i == 1 ? 4 : 1 + (i - 1) % 16);
    }

    private static void statusOfOthers() {
        sentence("status: NONE for others");
        BothEnds x = new BothEnds();
        for (int what : new int[] {3, -1, 4, LEAST, GREATEST}) due("status " + what, x.status(what), -1);
        for (int what = 0; what < 3; what++) due("that is no refusal", x.status(what), 0);
    }

    public static void main(String[] args) {
        stretchesAtTheEndsOfQ();
        stretchesInOrderOfI();
        stretchesStandInNoTwoDocuments();
        matchesOfSoManyLettersAtLeast();
        matchesOfNoBytes();
        matchOfNone();
        noMatchBehindText();
        maximalAtTwoPlacesAtLeast();
        notTheSameLetterAhead();
        theSameLetterAheadOfOthersToo();
        notTheSameLetterBehind();
        aBarAndTheBeginningAreNoLettersAhead();
        aBarAndEndAreNoLettersBehind();
        numberedAsInADictionary();
        maximalsOfSoManyLetters();
        maximalsAtSoManyPlaces();
        maximalOfNone();
        stringsOf1To240Letters();
        repeatOfNone();
        repeatOfAlikeLongOnes();
        uniqueOfNone();
        uniqueOfNoPlace();
        aroundOfNone();
        aroundOfAlikeOnes();
        aroundOfNoPlace();
        commonOfNone();
        commonBehindOthers();
        commonOfAlikeLongOnes();
        documentOfNone();
        hitsInADocument();
        printOfNoSide();
        printWrapsAround();
        statusCountsEachRefusal();
        statusOf511Refusals();
        statusOfOthers();
        end("StringEdgesTest");
    }
}
