import java.util.NoSuchElementException;

public final class BothEnds {
    public static final int NONE = -1;

    private static final int MOST_SIGNS = 240;
    private static final int FED_NUMBERS = 5;
    private static final int BYTES_OF_A_NUMBER = 4;
    private static final int MOST_CURSOR = 40;
    private static final int MOST_PATTERN = 24;
    private static final int MOST_SEARCHES = 8;
    private static final int MOST_PARTS = 5;
    private static final int MOST_MISMATCHES = 4;
    private static final int MOST_SHARES = 126;
    private static final int FIRST_STEP = 4;
    private static final int MOST_STEP = 16;

    private static final int LEFT = 0;
    private static final int RIGHT = 1;

    // Signs are held as numbers in FORTH order, so that plain comparison sorts them.
    private static final int END = 0;
    private static final int BAR = 1;
    private static final int FIRST_LETTER = 2;
    private static final int ALPHABET = 8;
    private static final int BYTE_OF_A = 97;
    private static final int BYTE_OF_BAR = 124;

    private static final int OUT_OF_PLACE = 1;
    private static final int NO_SUCH_DIGIT = 2;
    private static final int ONE_TOO_MANY = 3;
    private static final int BYTE_OF_BLANK = 32;
    private static final int BYTE_OF_SEMICOLON = 59;
    private static final int BYTE_OF_ZERO = 48;
    private static final int BYTE_OF_NINE = 57;

    private final Tape tape;
    private final Text words;
    private final Rows forth;
    private final Rows back;
    private final Cursor cursor;
    private final Repeats repeats;
    private final Stretches stretches;
    private final Hunt hunt;
    private final Result outcome;
    private final SchemeReader reader;
    private Scheme plan;
    private Scheme spare;
    private int noteStep;
    private int missingElements;
    private int wrongArguments;
    private int wrongStates;

    public BothEnds() {
        tape = new Tape();
        words = new Text();
        forth = new Rows(words.signs);
        back = new Rows(words.mirrored);
        cursor = new Cursor(forth, back);
        repeats = new Repeats(words, forth);
        stretches = new Stretches(words);
        hunt = new Hunt(words, forth, back);
        outcome = new Result();
        reader = new SchemeReader(tape);
        plan = new Scheme();
        spare = new Scheme();
        noteStep = FIRST_STEP;
        index();
    }

    public int feed(int a, int b, int c, int d, int e) {
        if (tape.length + FED_NUMBERS * BYTES_OF_A_NUMBER > MOST_SIGNS) {
            return NONE;
        }
        tape.put(a);
        tape.put(b);
        tape.put(c);
        tape.put(d);
        tape.put(e);
        return tape.length;
    }

    public int text(int n) throws IllegalArgumentException {
        needArgument(tape.holds(n));
        int wrong = tape.firstNoText(n);
        if (wrong == NONE) {
            words.take(tape, n);
            index();
            outcome.stands = false;
            stretches.size = 0;
        }
        tape.length = 0;
        return wrong == NONE ? 0 : -1 - wrong;
    }

    public int scheme(int n) throws IllegalArgumentException {
        needArgument(tape.holds(n));
        reader.read(n, spare);
        tape.length = 0;
        if (reader.kind != 0) {
            return reader.kind - 10;
        }
        Scheme former = plan;
        plan = spare;
        spare = former;
        return plan.searches;
    }

    public int fault() {
        return reader.place;
    }

    public int step(int v) throws IllegalArgumentException {
        needArgument(v >= 1 && v <= MOST_STEP);
        int former = noteStep;
        noteStep = v;
        return former;
    }

    public int grow(int letter, int what) throws IllegalArgumentException, IllegalStateException {
        needArgument(isLetter(letter) && isWhat(what, RIGHT));
        needState(cursor.length < MOST_CURSOR);
        return cursor.push(letter - BYTE_OF_A, what);
    }

    public int shrink() {
        return cursor.pop();
    }

    public int clear() {
        int had = cursor.length;
        cursor.empty();
        return had;
    }

    public int told(int what) throws IllegalArgumentException {
        needArgument(isWhat(what, 13));
        switch (what) {
            case 0: return words.length;
            case 1: return words.documents;
            case 2: return Integer.bitCount(words.letterBits);
            case 3: return noteStep;
            case 4: return cursor.length;
            case 5: return cursor.lowForth();
            case 6: return cursor.lowBack();
            case 7: return cursor.size();
            case 8: return words.length / noteStep + 1;
            case 9: return plan.searches;
            case 10: return plan.parts;
            case 11: return plan.budget();
            case 12: return tape.length;
            default: return outcome.stands ? outcome.size : NONE;
        }
    }

    public int sign(int place) throws NoSuchElementException {
        needElement(isPlace(place));
        return byteOf(words.signs[place]);
    }

    public int row(int side, int row, int what) throws NoSuchElementException, IllegalArgumentException {
        needElement(isSide(side) && isPlace(row));
        needArgument(isWhat(what, 6));
        Rows rows = rowsOf(side);
        int place = rows.places[row];
        switch (what) {
            case 0: return place;
            case 1: return byteOf(rows.signs[place]);
            case 2: return byteOf(rows.before(row));
            case 3: return rows.walk(row);
            case 4: return place % noteStep == 0 ? 1 : 0;
            // Each WALK goes one PLACE down, so the remainder is the number of them.
            case 5: return place % noteStep;
            default: return rows.alike[row];
        }
    }

    public int rowOf(int side, int place) throws NoSuchElementException {
        needElement(isSide(side) && isPlace(place));
        return rowsOf(side).rowOfPlace[place];
    }

    public int count(int side, int row, int letter) throws NoSuchElementException, IllegalArgumentException {
        needElement(isSide(side) && row >= 0 && row <= words.length + 1);
        needArgument(isLetter(letter));
        return rowsOf(side).lettersAhead(row, letter - BYTE_OF_A);
    }

    public int letter(int k) throws NoSuchElementException {
        needElement(k >= 0 && k < cursor.length);
        return cursor.letterAt(k) + BYTE_OF_A;
    }

    public int grows(int what) throws IllegalArgumentException {
        needArgument(isWhat(what, RIGHT));
        return cursor.waysOn(what);
    }

    public int hit(int k, int what) throws NoSuchElementException, IllegalArgumentException {
        int place = placeOfHit(k);
        needElement(place != NONE);
        needArgument(isWhat(what, 2));
        int document = words.documentOf[place];
        switch (what) {
            case 0: return place;
            case 1: return document;
            default: return place - words.firstPlaces[document];
        }
    }

    public int hits(int what) throws IllegalArgumentException {
        needArgument(isWhat(what, 3));
        return what == 0 ? documentsHit() : gapsBetweenHits(what);
    }

    public int often(int n) throws IllegalArgumentException {
        needArgument(tape.holds(n) && tape.lettersAlone(n));
        int low = 0;
        int behind = words.length + 1;
        for (int i = n - 1; i >= 0; i--) {
            int letter = tape.letterAt(i);
            low = forth.rowWith(low, letter);
            behind = forth.rowWith(behind, letter);
        }
        return behind - low;
    }

    public int shares(int what) throws IllegalArgumentException {
        needArgument(isWhat(what, 2));
        plan.surveyShares();
        switch (what) {
            case 0: return plan.shares;
            case 1: return plan.uncovered;
            default: return plan.coveredTwice;
        }
    }

    public boolean sound() {
        plan.surveyShares();
        return plan.uncovered == 0 && plan.coveredTwice == 0;
    }

    public int needless() {
        plan.surveyShares();
        return ((1 << plan.searches) - 1) & ~plan.needed;
    }

    public int digit(int search, int k, int what) throws NoSuchElementException, IllegalArgumentException {
        needElement(isSearch(search) && k >= 0 && k < plan.parts);
        needArgument(isWhat(what, 2));
        int at = search * MOST_PARTS + k;
        switch (what) {
            case 0: return plan.order[at];
            case 1: return plan.least[at];
            default: return plan.most[at];
        }
    }

    public int search(int n) throws IllegalArgumentException {
        needArgument(tape.holds(n) && n >= plan.parts && n <= MOST_PATTERN && tape.lettersAlone(n));
        outcome.takePattern(tape, n);
        tape.length = 0;
        hunt.forget();
        for (int search = 0; search < plan.searches; search++) {
            hunt.run(plan, search, outcome.pattern, n);
        }
        outcome.gather(hunt, words.length);
        return outcome.size;
    }

    public int found(int k, int what) throws NoSuchElementException, IllegalArgumentException {
        needElement(outcome.stands && k >= 0 && k < outcome.size);
        needArgument(isWhat(what, 3));
        switch (what) {
            case 0: return outcome.places[k];
            case 1: return outcome.mismatches[k];
            case 2: return outcome.times[k];
            default: return outcome.unlikeBits(words, outcome.places[k]);
        }
    }

    public int result(int what) throws IllegalArgumentException {
        needArgument(isWhat(what, 4));
        if (!outcome.stands) {
            return NONE;
        }
        switch (what) {
            case 0: return outcome.found;
            case 1: return outcome.tried;
            case 2: return outcome.faultless();
            case 3: return outcome.mostMismatches();
            default: return outcome.letters;
        }
    }

    public int ran(int search, int what) throws NoSuchElementException, IllegalArgumentException {
        needElement(isSearch(search));
        needArgument(isWhat(what, 1));
        if (!outcome.stands || outcome.letters < plan.parts) {
            return NONE;
        }
        hunt.forget();
        hunt.run(plan, search, outcome.pattern, outcome.letters);
        return what == 0 ? hunt.found : hunt.tried;
    }

    public int matches(int n, int least) throws IllegalArgumentException {
        needArgument(tape.holds(n) && isLength(least) && tape.lettersAlone(n));
        stretches.compare(tape, n);
        stretches.keepMatches(n, least);
        tape.length = 0;
        return stretches.size;
    }

    public int match(int k, int what) throws NoSuchElementException, IllegalArgumentException {
        needElement(k >= 0 && k < stretches.size);
        needArgument(isWhat(what, 3));
        switch (what) {
            case 0: return stretches.starts[k];
            case 1: return stretches.lengths[k];
            case 2: return stretches.times[k];
            default: return stretches.firsts[k];
        }
    }

    public int maximals(int least, int often) throws IllegalArgumentException {
        needArgument(isLength(least) && isOften(often));
        return repeats.countMaximals(least, often);
    }

    public int maximal(int k, int least, int often, int what)
            throws NoSuchElementException, IllegalArgumentException {
        needArgument(isLength(least) && isOften(often) && isWhat(what, 2));
        int index = repeats.indexOfMaximal(k, least, often);
        needElement(index != NONE);
        switch (what) {
            case 0: return repeats.lengths[index];
            case 1: return repeats.firstPlace(repeats.lows[index], repeats.sizes[index]);
            default: return repeats.sizes[index];
        }
    }

    public int strings(int length) throws IllegalArgumentException {
        needArgument(isLength(length));
        return repeats.unlikeStrings(length);
    }

    public int repeat(int what) throws IllegalArgumentException {
        needArgument(isWhat(what, 2));
        int letters = repeats.longest();
        if (letters == 0) {
            return what == 1 ? NONE : 0;
        }
        int place = repeats.firstOfRepeat(letters);
        switch (what) {
            case 0: return letters;
            case 1: return place;
            default: return repeats.timesFrom(place, letters);
        }
    }

    public int unique(int place) throws NoSuchElementException {
        needElement(isPlace(place));
        return repeats.lettersAlone(place);
    }

    public int around(int place, int what) throws NoSuchElementException, IllegalArgumentException {
        needElement(isPlace(place));
        needArgument(isWhat(what, 1));
        int start = repeats.startAround(place);
        if (start == NONE) {
            return NONE;
        }
        return what == 0 ? repeats.lettersAround(start, place) : start;
    }

    public int common(int what) throws IllegalArgumentException {
        needArgument(isWhat(what, 1));
        stretches.findCommon();
        return what == 0 ? stretches.commonLetters : stretches.commonPlace;
    }

    public int document(int document, int what) throws NoSuchElementException, IllegalArgumentException {
        needElement(document >= 0 && document < words.documents);
        needArgument(isWhat(what, 2));
        int first = words.firstPlaces[document];
        switch (what) {
            case 0: return first;
            case 1: return words.lettersFrom[first];
            default: return hitsIn(document);
        }
    }

    public long print(int side) throws NoSuchElementException {
        needElement(isSide(side));
        Rows rows = rowsOf(side);
        long sum = 0;
        for (int row = 0; row <= words.length; row++) {
            sum = 31 * sum + byteOf(rows.before(row));
        }
        return sum;
    }

    public int status(int what) {
        switch (what) {
            case 0: return missingElements;
            case 1: return wrongArguments;
            case 2: return wrongStates;
            default: return NONE;
        }
    }

    private void index() {
        words.survey();
        forth.arrange(words.length);
        back.arrange(words.length);
        repeats.listMaximals();
        cursor.empty();
    }

    private void needElement(boolean there) {
        if (!there) {
            missingElements++;
            throw new NoSuchElementException("no such side, row, place, document, letter or hit");
        }
    }

    private void needArgument(boolean right) {
        if (!right) {
            wrongArguments++;
            throw new IllegalArgumentException("an argument that the call does not take");
        }
    }

    private void needState(boolean right) {
        if (!right) {
            wrongStates++;
            throw new IllegalStateException("the cursor has as many letters as it can");
        }
    }

    private static boolean isSide(int side) {
        return side == 0 || side == 1;
    }

    private static boolean isWhat(int what, int last) {
        return what >= 0 && what <= last;
    }

    private static boolean isLength(int letters) {
        return letters >= 1 && letters <= MOST_SIGNS;
    }

    private static boolean isOften(int often) {
        return often >= 2 && often <= MOST_SIGNS + 1;
    }

    // ROWS are as many as PLACES, and both begin at 0.
    private boolean isPlace(int place) {
        return place >= 0 && place <= words.length;
    }

    private boolean isSearch(int search) {
        return search >= 0 && search < plan.searches;
    }

    private static boolean isLetter(int number) {
        return number >= BYTE_OF_A && number < BYTE_OF_A + ALPHABET;
    }

    private static int byteOf(int sign) {
        if (sign == END) {
            return 0;
        }
        return sign == BAR ? BYTE_OF_BAR : sign - FIRST_LETTER + BYTE_OF_A;
    }

    private Rows rowsOf(int side) {
        return side == 0 ? forth : back;
    }

    private boolean isHit(int place) {
        int behindLow = forth.rowOfPlace[place] - cursor.lowForth();
        return behindLow >= 0 && behindLow < cursor.size();
    }

    // NONE when no PLACE is left; going by PLACES spares sorting the SPAN.
    private int nextHit(int place) {
        for (int next = place; next <= words.length; next++) {
            if (isHit(next)) {
                return next;
            }
        }
        return NONE;
    }

    private int placeOfHit(int k) {
        if (k < 0 || k >= cursor.size()) {
            return NONE;
        }
        int place = nextHit(0);
        for (int i = 0; i < k && place != NONE; i++) {
            place = nextHit(place + 1);
        }
        return place;
    }

    private int documentsHit() {
        int documents = 0;
        for (int document = 0; document < words.documents; document++) {
            if (hitsIn(document) > 0) {
                documents++;
            }
        }
        return documents;
    }

    private int hitsIn(int document) {
        int hits = 0;
        for (int place = words.firstPlaces[document]; place <= words.length; place++) {
            if (words.documentOf[place] != document) {
                break;
            }
            if (isHit(place)) {
                hits++;
            }
        }
        return hits;
    }

    private int gapsBetweenHits(int what) {
        int least = NONE;
        int greatest = NONE;
        int overlaps = 0;
        int place = nextHit(0);
        for (int k = 1; k < cursor.size(); k++) {
            int next = nextHit(place + 1);
            int gap = next - place;
            least = least == NONE ? gap : Math.min(least, gap);
            greatest = Math.max(greatest, gap);
            overlaps += gap < cursor.length ? 1 : 0;
            place = next;
        }
        switch (what) {
            case 1: return least;
            case 2: return greatest;
            default: return overlaps;
        }
    }

    /** Bytes that were fed and that no call has used yet. */
    private static final class Tape {
        private final int[] bytes = new int[MOST_SIGNS];
        private int length;

        private void put(int number) {
            for (int shift = 24; shift >= 0; shift -= 8) {
                if (length < bytes.length) {
                    bytes[length] = (number >>> shift) & 255;
                    length++;
                }
            }
        }

        private boolean holds(int n) {
            return n >= 1 && n <= length;
        }

        private boolean lettersAlone(int n) {
            for (int i = 0; i < n; i++) {
                if (!isLetter(bytes[i])) {
                    return false;
                }
            }
            return true;
        }

        private int letterAt(int i) {
            return bytes[i] - BYTE_OF_A;
        }

        private int firstNoText(int n) {
            for (int i = 0; i < n; i++) {
                if (!isLetter(bytes[i]) && !isParting(i, n)) {
                    return i;
                }
            }
            return NONE;
        }

        private boolean isParting(int i, int n) {
            return bytes[i] == BYTE_OF_BAR && i > 0 && i < n - 1 && bytes[i - 1] != BYTE_OF_BAR;
        }
    }

    /** The TEXT, from both ends, and what its bars part. */
    private static final class Text {
        private final int[] signs = new int[MOST_SIGNS + 1];
        private final int[] mirrored = new int[MOST_SIGNS + 1];
        private final int[] lettersFrom = new int[MOST_SIGNS + 1];
        private final int[] documentOf = new int[MOST_SIGNS + 1];
        private final int[] firstPlaces = new int[MOST_SIGNS + 1];
        private int length;
        private int documents;
        private int letterBits;

        private Text() {
            signs[0] = FIRST_LETTER;
            length = 1;
        }

        private void take(Tape tape, int n) {
            for (int i = 0; i < n; i++) {
                int number = tape.bytes[i];
                signs[i] = number == BYTE_OF_BAR ? BAR : number - BYTE_OF_A + FIRST_LETTER;
            }
            signs[n] = END;
            length = n;
        }

        private void survey() {
            mirror();
            gatherLetters();
            partDocuments();
            measureLetters();
        }

        private void mirror() {
            for (int place = 0; place < length; place++) {
                mirrored[place] = signs[length - 1 - place];
            }
            mirrored[length] = END;
        }

        private void gatherLetters() {
            letterBits = 0;
            for (int place = 0; place < length; place++) {
                if (signs[place] >= FIRST_LETTER) {
                    letterBits |= 1 << (signs[place] - FIRST_LETTER);
                }
            }
        }

        private void partDocuments() {
            int document = 0;
            firstPlaces[0] = 0;
            for (int place = 0; place <= length; place++) {
                documentOf[place] = document;
                if (signs[place] == BAR) {
                    document++;
                    firstPlaces[document] = place + 1;
                }
            }
            documents = document + 1;
        }

        private void measureLetters() {
            lettersFrom[length] = 0;
            for (int place = length - 1; place >= 0; place--) {
                lettersFrom[place] = signs[place] == BAR ? 0 : lettersFrom[place + 1] + 1;
            }
        }

        private boolean hasLetter(int letter) {
            return (letterBits & (1 << letter)) != 0;
        }
    }

    /** The ROWS of one side. */
    private static final class Rows {
        private final int[] signs;
        private final int[] places = new int[MOST_SIGNS + 1];
        private final int[] rowOfPlace = new int[MOST_SIGNS + 1];
        private final int[] alike = new int[MOST_SIGNS + 1];
        // For each ROW and letter: BEFORES ahead of the ROW that come ahead of the letter.
        private final int[] smaller = new int[(MOST_SIGNS + 2) * ALPHABET];
        private int length;

        private Rows(int[] signs) {
            this.signs = signs;
        }

        private void arrange(int n) {
            length = n;
            sortPlaces();
            compareNeighbours();
            tallySmaller();
        }

        // From the end on, so that what follows two like signs is in order already.
        private void sortPlaces() {
            places[0] = length;
            rowOfPlace[length] = 0;
            for (int place = length - 1; place >= 0; place--) {
                int row = length - place;
                while (row > 0 && isAhead(place, places[row - 1])) {
                    places[row] = places[row - 1];
                    rowOfPlace[places[row]] = row;
                    row--;
                }
                places[row] = place;
                rowOfPlace[place] = row;
            }
        }

        private boolean isAhead(int place, int other) {
            if (signs[place] != signs[other] || place >= length || other >= length) {
                return signs[place] < signs[other];
            }
            return rowOfPlace[place + 1] < rowOfPlace[other + 1];
        }

        // One PLACE further on, at most one sign less is alike: nothing is compared twice.
        private void compareNeighbours() {
            int same = 0;
            for (int place = 0; place <= length; place++) {
                int row = rowOfPlace[place];
                if (row == 0) {
                    alike[row] = 0;
                    same = 0;
                    continue;
                }
                int other = places[row - 1];
                while (place + same < length && other + same < length
                        && signs[place + same] == signs[other + same]) {
                    same++;
                }
                alike[row] = same;
                same = Math.max(0, same - 1);
            }
        }

        private void tallySmaller() {
            for (int row = 0; row <= length; row++) {
                int sign = before(row);
                for (int letter = 0; letter < ALPHABET; letter++) {
                    int more = sign < FIRST_LETTER + letter ? 1 : 0;
                    smaller[(row + 1) * ALPHABET + letter] = smaller[row * ALPHABET + letter] + more;
                }
            }
        }

        private int before(int row) {
            int place = places[row];
            return place == 0 ? END : signs[place - 1];
        }

        private int walk(int row) {
            int place = places[row];
            return place == 0 ? 0 : rowOfPlace[place - 1];
        }

        private int smallerAhead(int row, int letter) {
            return letter >= ALPHABET ? row : smaller[row * ALPHABET + letter];
        }

        private int lettersAhead(int row, int letter) {
            return smallerAhead(row, letter + 1) - smallerAhead(row, letter);
        }

        // BEFORES are the first signs of all ROWS, so those smaller in all tell where a letter's ROWS begin.
        private int rowWith(int row, int letter) {
            return smallerAhead(length + 1, letter) + lettersAhead(row, letter);
        }
    }

    /** SPANS of a pattern and of all from which it has grown, by their number of letters. */
    private static final class Spans {
        private final Rows forth;
        private final Rows back;
        // The CURSOR may be longer than a PATTERN that is searched, so its room is enough for either.
        private final int[] lowForth = new int[MOST_CURSOR + 1];
        private final int[] lowBack = new int[MOST_CURSOR + 1];
        private final int[] sizes = new int[MOST_CURSOR + 1];

        private Spans(Rows forth, Rows back) {
            this.forth = forth;
            this.back = back;
        }

        private void start() {
            lowForth[0] = 0;
            lowBack[0] = 0;
            sizes[0] = forth.length + 1;
        }

        private int extend(int letters, int letter, int where) {
            if (letters < 0 || letters + 1 >= sizes.length) {
                return 0;
            }
            Rows own = where == LEFT ? forth : back;
            int[] ownLow = where == LEFT ? lowForth : lowBack;
            int[] otherLow = where == LEFT ? lowBack : lowForth;
            int from = ownLow[letters];
            int to = from + sizes[letters];
            int low = own.rowWith(from, letter);
            ownLow[letters + 1] = low;
            // The other side's span is sorted by the very signs that stand BEFORE in this one's.
            otherLow[letters + 1] = otherLow[letters]
                    + own.smallerAhead(to, letter) - own.smallerAhead(from, letter);
            sizes[letters + 1] = own.rowWith(to, letter) - low;
            return sizes[letters + 1];
        }
    }

    /** THE CURSOR. */
    private static final class Cursor {
        private final Spans spans;
        private final int[] sides = new int[MOST_CURSOR];
        // Begins in the middle, so that it can grow either way without moving.
        private final int[] letters = new int[2 * MOST_CURSOR];
        private int first;
        private int length;

        private Cursor(Rows forth, Rows back) {
            spans = new Spans(forth, back);
        }

        private void empty() {
            first = MOST_CURSOR;
            length = 0;
            spans.start();
        }

        private int push(int letter, int where) {
            if (length >= MOST_CURSOR) {
                return 0;
            }
            int size = spans.extend(length, letter, where);
            if (size == 0) {
                return 0;
            }
            if (where == LEFT) {
                first--;
                letters[first] = letter;
            } else {
                letters[first + length] = letter;
            }
            sides[length] = where;
            length++;
            return size;
        }

        private int pop() {
            if (length == 0) {
                return NONE;
            }
            length--;
            if (sides[length] == LEFT) {
                first++;
            }
            return size();
        }

        private int letterAt(int k) {
            return letters[first + k];
        }

        private int waysOn(int where) {
            int bits = 0;
            if (length >= MOST_CURSOR) {
                return bits;
            }
            for (int letter = 0; letter < ALPHABET; letter++) {
                if (spans.extend(length, letter, where) > 0) {
                    bits |= 1 << letter;
                }
            }
            return bits;
        }

        private int lowForth() {
            return spans.lowForth[length];
        }

        private int lowBack() {
            return spans.lowBack[length];
        }

        private int size() {
            return spans.sizes[length];
        }
    }

    /** A SCHEME, and which SHARES it COVERS. */
    private static final class Scheme {
        private final int[] order = new int[MOST_SEARCHES * MOST_PARTS];
        private final int[] least = new int[MOST_SEARCHES * MOST_PARTS];
        private final int[] most = new int[MOST_SEARCHES * MOST_PARTS];
        private final int[] share = new int[MOST_PARTS];
        private int searches;
        private int parts;
        private int shared;
        private int shares;
        private int uncovered;
        private int coveredTwice;
        private int needed;

        private Scheme() {
            searches = 1;
            parts = 1;
        }

        private int budget() {
            int budget = 0;
            for (int search = 0; search < searches; search++) {
                budget = Math.max(budget, most[search * MOST_PARTS + parts - 1]);
            }
            return budget;
        }

        private void surveyShares() {
            int budget = budget();
            shares = 0;
            uncovered = 0;
            coveredTwice = 0;
            needed = 0;
            firstShare();
            boolean more = true;
            for (int turn = 0; turn < MOST_SHARES && more; turn++) {
                noteShare(coveringBits());
                more = nextShare(budget);
            }
        }

        private void noteShare(int covering) {
            int times = Integer.bitCount(covering);
            shares++;
            if (times == 0) {
                uncovered++;
            } else if (times == 1) {
                needed |= covering;
            } else {
                coveredTwice++;
            }
        }

        private void firstShare() {
            shared = 0;
            for (int part = 0; part < MOST_PARTS; part++) {
                share[part] = 0;
            }
        }

        // Counts on as numbers do, a part being full where the BUDGET is used up.
        private boolean nextShare(int budget) {
            for (int part = 0; part < parts; part++) {
                if (shared < budget) {
                    share[part]++;
                    shared++;
                    return true;
                }
                shared -= share[part];
                share[part] = 0;
            }
            return false;
        }

        private int coveringBits() {
            int bits = 0;
            for (int search = 0; search < searches; search++) {
                if (covers(search)) {
                    bits |= 1 << search;
                }
            }
            return bits;
        }

        private boolean covers(int search) {
            int together = 0;
            for (int k = 0; k < parts; k++) {
                int at = search * MOST_PARTS + k;
                together += share[order[at]];
                if (together < least[at] || together > most[at]) {
                    return false;
                }
            }
            return true;
        }
    }

    /** Reads a SCHEME from the TAPE, up to its first FAULT. */
    private static final class SchemeReader {
        private final Tape tape;
        private int end;
        private int at;
        private int kind;
        private int place;

        private SchemeReader(Tape tape) {
            this.tape = tape;
            place = NONE;
        }

        private void read(int n, Scheme into) {
            end = n;
            at = 0;
            kind = 0;
            place = NONE;
            into.searches = 0;
            skipBlanks();
            for (int turn = 0; turn <= MOST_SEARCHES && at < end && kind == 0; turn++) {
                readSearch(into);
                skipBlanks();
            }
            if (kind == 0 && into.searches == 0) {
                fail(OUT_OF_PLACE);
            }
        }

        private void readSearch(Scheme into) {
            if (into.searches >= MOST_SEARCHES) {
                fail(isDigit() ? ONE_TOO_MANY : OUT_OF_PLACE);
                return;
            }
            boolean whole = readOrder(into) && readGap()
                    && readLeast(into) && readGap()
                    && readMost(into) && readSemicolon();
            if (whole) {
                into.searches++;
            }
        }

        private boolean readOrder(Scheme into) {
            if (into.searches == 0) {
                into.parts = Math.min(digitsFrom(), MOST_PARTS);
            }
            if (into.parts == 0) {
                return fail(OUT_OF_PLACE);
            }
            int used = 0;
            for (int k = 0; k < into.parts; k++) {
                if (!isDigit()) {
                    return fail(OUT_OF_PLACE);
                }
                int digit = digitHere();
                if (!canFollow(digit, used, into.parts)) {
                    return fail(NO_SUCH_DIGIT);
                }
                used |= 1 << digit;
                into.order[into.searches * MOST_PARTS + k] = digit;
                at++;
            }
            if (isDigit()) {
                return fail(into.searches == 0 ? ONE_TOO_MANY : OUT_OF_PLACE);
            }
            return true;
        }

        private static boolean canFollow(int digit, int used, int parts) {
            if (digit >= parts || (used & (1 << digit)) != 0) {
                return false;
            }
            int neighbours = (1 << (digit + 1)) | ((1 << digit) >> 1);
            return used == 0 || (used & neighbours) != 0;
        }

        private boolean readLeast(Scheme into) {
            int lowest = 0;
            for (int k = 0; k < into.parts; k++) {
                int digit = boundHere(lowest);
                if (digit == NONE) {
                    return false;
                }
                into.least[into.searches * MOST_PARTS + k] = digit;
                lowest = digit;
                at++;
            }
            return isDigit() ? fail(OUT_OF_PLACE) : true;
        }

        private boolean readMost(Scheme into) {
            int lowest = 0;
            for (int k = 0; k < into.parts; k++) {
                int index = into.searches * MOST_PARTS + k;
                int digit = boundHere(Math.max(lowest, into.least[index]));
                if (digit == NONE) {
                    return false;
                }
                into.most[index] = digit;
                lowest = digit;
                at++;
            }
            return isDigit() ? fail(OUT_OF_PLACE) : true;
        }

        private int boundHere(int lowest) {
            if (!isDigit()) {
                fail(OUT_OF_PLACE);
                return NONE;
            }
            int digit = digitHere();
            if (digit < lowest || digit > MOST_MISMATCHES) {
                fail(NO_SUCH_DIGIT);
                return NONE;
            }
            return digit;
        }

        private boolean readGap() {
            if (!isByte(BYTE_OF_BLANK)) {
                return fail(OUT_OF_PLACE);
            }
            skipBlanks();
            return true;
        }

        private boolean readSemicolon() {
            skipBlanks();
            if (!isByte(BYTE_OF_SEMICOLON)) {
                return fail(OUT_OF_PLACE);
            }
            at++;
            return true;
        }

        private void skipBlanks() {
            while (at < end && tape.bytes[at] == BYTE_OF_BLANK) {
                at++;
            }
        }

        private int digitsFrom() {
            int digits = 0;
            for (int i = at; i < end && isDigitByte(tape.bytes[i]); i++) {
                digits++;
            }
            return digits;
        }

        private boolean isByte(int number) {
            return at < end && tape.bytes[at] == number;
        }

        private boolean isDigit() {
            return at < end && isDigitByte(tape.bytes[at]);
        }

        private int digitHere() {
            return tape.bytes[at] - BYTE_OF_ZERO;
        }

        private static boolean isDigitByte(int number) {
            return number >= BYTE_OF_ZERO && number <= BYTE_OF_NINE;
        }

        private boolean fail(int fault) {
            kind = fault;
            place = at;
            return false;
        }
    }

    /** RUNS of SEARCHES, and what they TRIED and FOUND since it was last told to forget. */
    private static final class Hunt {
        private final Text text;
        private final Rows forth;
        private final Spans spans;
        private final int[] wanted = new int[MOST_PATTERN];
        private final int[] sides = new int[MOST_PATTERN];
        private final int[] floors = new int[MOST_PATTERN];
        private final int[] ceilings = new int[MOST_PATTERN];
        private final int[] times = new int[MOST_SIGNS + 1];
        private final int[] mismatches = new int[MOST_SIGNS + 1];
        private int steps;
        private int tried;
        private int found;

        private Hunt(Text text, Rows forth, Rows back) {
            this.text = text;
            this.forth = forth;
            spans = new Spans(forth, back);
        }

        private void forget() {
            tried = 0;
            found = 0;
            for (int place = 0; place <= MOST_SIGNS; place++) {
                times[place] = 0;
            }
        }

        private void run(Scheme plan, int search, int[] pattern, int letters) {
            steps = 0;
            if (plan.parts < 1) {
                return;
            }
            int first = search * MOST_PARTS;
            for (int k = 0; k < plan.parts; k++) {
                int part = plan.order[first + k];
                int from = part * letters / plan.parts;
                int to = (part + 1) * letters / plan.parts;
                // The parts done lie side by side, so the first one tells on which side of them all this one is.
                if (part < plan.order[first]) {
                    planLeftwards(pattern, from, to, plan.most[first + k]);
                } else {
                    planRightwards(pattern, from, to, plan.most[first + k]);
                }
                if (steps > 0) {
                    floors[steps - 1] = plan.least[first + k];
                }
            }
            spans.start();
            goOn(0, 0);
        }

        private void planLeftwards(int[] pattern, int from, int to, int most) {
            for (int i = to - 1; i >= from; i--) {
                planLetter(pattern[i], LEFT, most);
            }
        }

        private void planRightwards(int[] pattern, int from, int to, int most) {
            for (int i = from; i < to; i++) {
                planLetter(pattern[i], RIGHT, most);
            }
        }

        private void planLetter(int letter, int side, int most) {
            if (steps < MOST_PATTERN) {
                wanted[steps] = letter;
                sides[steps] = side;
                floors[steps] = 0;
                ceilings[steps] = most;
                steps++;
            }
        }

        // As deep as the PATTERN has letters, 24 at most.
        private void goOn(int depth, int missed) {
            if (depth >= steps) {
                noteFound(depth, missed);
                return;
            }
            for (int letter = 0; letter < ALPHABET; letter++) {
                int misses = letter == wanted[depth] ? missed : missed + 1;
                if (text.hasLetter(letter) && misses <= ceilings[depth]) {
                    tried++;
                    if (spans.extend(depth, letter, sides[depth]) > 0 && misses >= floors[depth]) {
                        goOn(depth + 1, misses);
                    }
                }
            }
        }

        private void noteFound(int depth, int missed) {
            int low = spans.lowForth[depth];
            int size = spans.sizes[depth];
            for (int row = low; row < low + size; row++) {
                int place = forth.places[row];
                if (times[place] == 0 || missed < mismatches[place]) {
                    mismatches[place] = missed;
                }
                times[place]++;
            }
            found += size;
        }
    }

    /** The RESULT, if one stands. */
    private static final class Result {
        private final int[] pattern = new int[MOST_PATTERN];
        private final int[] places = new int[MOST_SIGNS + 1];
        private final int[] mismatches = new int[MOST_SIGNS + 1];
        private final int[] times = new int[MOST_SIGNS + 1];
        private boolean stands;
        private int letters;
        private int size;
        private int found;
        private int tried;

        private void takePattern(Tape tape, int n) {
            letters = Math.min(n, MOST_PATTERN);
            for (int i = 0; i < letters; i++) {
                pattern[i] = tape.letterAt(i);
            }
        }

        private void gather(Hunt hunt, int length) {
            stands = true;
            found = hunt.found;
            tried = hunt.tried;
            size = 0;
            for (int place = 0; place <= length; place++) {
                if (hunt.times[place] > 0) {
                    places[size] = place;
                    mismatches[size] = hunt.mismatches[place];
                    times[size] = hunt.times[place];
                    size++;
                }
            }
        }

        private int unlikeBits(Text text, int place) {
            int bits = 0;
            for (int i = 0; i < letters && place + i < text.length; i++) {
                if (text.signs[place + i] != pattern[i] + FIRST_LETTER) {
                    bits |= 1 << i;
                }
            }
            return bits;
        }

        private int faultless() {
            int places = 0;
            for (int k = 0; k < size; k++) {
                if (mismatches[k] == 0) {
                    places++;
                }
            }
            return places;
        }

        private int mostMismatches() {
            int most = NONE;
            for (int k = 0; k < size; k++) {
                most = Math.max(most, mismatches[k]);
            }
            return most;
        }
    }

    /** Rows of letters laid along the TEXT: the MATCHES of Q, and what all DOCUMENTS have in common. */
    private static final class Stretches {
        private final Text text;
        // Of each PLACE: with how many letters it begins as the row does that was read from behind.
        private final int[] reach = new int[MOST_SIGNS + 1];
        private final int[] starts = new int[MOST_SIGNS];
        private final int[] lengths = new int[MOST_SIGNS];
        private final int[] times = new int[MOST_SIGNS];
        private final int[] firsts = new int[MOST_SIGNS];
        private int size;
        private int commonLetters;
        private int commonPlace;

        private Stretches(Text text) {
            this.text = text;
        }

        private void beginReading() {
            for (int place = 0; place <= text.length; place++) {
                reach[place] = 0;
            }
        }

        private void readAhead(int sign) {
            for (int place = 0; place < text.length; place++) {
                reach[place] = text.signs[place] == sign ? reach[place + 1] + 1 : 0;
            }
        }

        private void compare(Tape tape, int n) {
            beginReading();
            for (int i = n - 1; i >= 0; i--) {
                readAhead(tape.letterAt(i) + FIRST_LETTER);
                noteLongest(i);
            }
        }

        private void noteLongest(int i) {
            lengths[i] = 0;
            times[i] = 0;
            firsts[i] = NONE;
            for (int place = 0; place < text.length; place++) {
                if (reach[place] > lengths[i]) {
                    lengths[i] = reach[place];
                    times[i] = 0;
                    firsts[i] = place;
                }
                if (reach[place] == lengths[i]) {
                    times[i]++;
                }
            }
        }

        // The longest from i on is a MATCH unless the one from ahead of i goes as far.
        private void keepMatches(int n, int least) {
            size = 0;
            int reached = 0;
            for (int i = 0; i < n; i++) {
                int behind = i + lengths[i];
                if (behind > reached && lengths[i] >= least) {
                    starts[size] = i;
                    lengths[size] = lengths[i];
                    times[size] = times[i];
                    firsts[size] = firsts[i];
                    size++;
                }
                reached = behind;
            }
        }

        // What all have the first DOCUMENT has too, and its first PLACE is there.
        private void findCommon() {
            commonLetters = 0;
            commonPlace = NONE;
            beginReading();
            for (int place = text.lettersFrom[0] - 1; place >= 0; place--) {
                readAhead(text.signs[place]);
                int letters = inAllOthers(text.lettersFrom[place]);
                if (letters > 0 && letters >= commonLetters) {
                    commonLetters = letters;
                    commonPlace = place;
                }
            }
        }

        private int inAllOthers(int letters) {
            int fewest = letters;
            for (int document = 1; document < text.documents; document++) {
                fewest = Math.min(fewest, mostIn(document));
            }
            return fewest;
        }

        private int mostIn(int document) {
            int most = 0;
            int first = text.firstPlaces[document];
            for (int place = first; place < first + text.lettersFrom[first]; place++) {
                most = Math.max(most, reach[place]);
            }
            return most;
        }
    }

    /** STRINGS that stand at several PLACES, or at one alone. */
    private static final class Repeats {
        private final Text text;
        private final Rows forth;
        private final int[] lengths = new int[MOST_SIGNS];
        private final int[] lows = new int[MOST_SIGNS];
        private final int[] sizes = new int[MOST_SIGNS];
        private int maximals;

        private Repeats(Text text, Rows forth) {
            this.text = text;
            this.forth = forth;
        }

        // With how many letters a ROW begins as the one ahead of it; none where there are not two.
        private int lettersAlike(int row) {
            if (row <= 0 || row > text.length) {
                return 0;
            }
            return Math.min(forth.alike[row], text.lettersFrom[forth.places[row]]);
        }

        private void listMaximals() {
            maximals = 0;
            for (int low = 1; low < text.length; low++) {
                int begin = maximals;
                listFrom(low);
                turnRound(begin);
            }
        }

        // All STRINGS whose ROWS begin with this one and that are followed by unlike signs, the longest first.
        private void listFrom(int low) {
            int outside = lettersAlike(low);
            int letters = lettersAlike(low + 1);
            for (int row = low + 1; row <= text.length + 1 && letters > outside; row++) {
                int alike = lettersAlike(row);
                if (alike < letters) {
                    addIfMaximal(letters, low, row - low);
                    letters = alike;
                }
            }
        }

        private void addIfMaximal(int letters, int low, int size) {
            int before = forth.before(low);
            boolean sameAhead = before >= FIRST_LETTER
                    && forth.lettersAhead(low + size, before - FIRST_LETTER)
                    - forth.lettersAhead(low, before - FIRST_LETTER) == size;
            if (!sameAhead && maximals < MOST_SIGNS) {
                lengths[maximals] = letters;
                lows[maximals] = low;
                sizes[maximals] = size;
                maximals++;
            }
        }

        // The shorter of two begins the longer, and so comes ahead of it; their lows are one and the same.
        private void turnRound(int begin) {
            int i = begin;
            for (int j = maximals - 1; j > i; j--) {
                exchange(lengths, i, j);
                exchange(sizes, i, j);
                i++;
            }
        }

        private static void exchange(int[] numbers, int i, int j) {
            int kept = numbers[i];
            numbers[i] = numbers[j];
            numbers[j] = kept;
        }

        private int countMaximals(int least, int often) {
            int many = 0;
            for (int i = 0; i < maximals; i++) {
                if (lengths[i] >= least && sizes[i] >= often) {
                    many++;
                }
            }
            return many;
        }

        private int indexOfMaximal(int k, int least, int often) {
            int ahead = 0;
            for (int i = 0; i < maximals; i++) {
                if (lengths[i] >= least && sizes[i] >= often) {
                    if (ahead == k) {
                        return i;
                    }
                    ahead++;
                }
            }
            return NONE;
        }

        private int firstPlace(int low, int size) {
            int first = text.length;
            for (int row = low; row < low + size; row++) {
                first = Math.min(first, forth.places[row]);
            }
            return first;
        }

        private int unlikeStrings(int letters) {
            int many = 0;
            for (int row = 0; row <= text.length; row++) {
                if (text.lettersFrom[forth.places[row]] >= letters && lettersAlike(row) < letters) {
                    many++;
                }
            }
            return many;
        }

        private int longest() {
            int letters = 0;
            for (int row = 1; row <= text.length; row++) {
                letters = Math.max(letters, lettersAlike(row));
            }
            return letters;
        }

        private int lettersShared(int place) {
            int row = forth.rowOfPlace[place];
            return Math.max(lettersAlike(row), lettersAlike(row + 1));
        }

        private int firstOfRepeat(int letters) {
            for (int place = 0; place < text.length; place++) {
                if (lettersShared(place) >= letters) {
                    return place;
                }
            }
            return NONE;
        }

        private int timesFrom(int place, int letters) {
            if (place == NONE) {
                return 0;
            }
            int row = forth.rowOfPlace[place];
            int many = 1;
            for (int above = row; above > 0 && lettersAlike(above) >= letters; above--) {
                many++;
            }
            for (int below = row + 1; below <= text.length && lettersAlike(below) >= letters; below++) {
                many++;
            }
            return many;
        }

        private int lettersAlone(int place) {
            int letters = lettersShared(place) + 1;
            return letters <= text.lettersFrom[place] ? letters : NONE;
        }

        // The fewest letters from a start on that reach over the PLACE and stand nowhere else.
        private int lettersAround(int start, int place) {
            int letters = lettersAlone(start);
            int over = place - start + 1;
            return letters == NONE || over > text.lettersFrom[start] ? NONE : Math.max(letters, over);
        }

        private int startAround(int place) {
            int best = NONE;
            int fewest = MOST_SIGNS + 1;
            for (int start = 0; start <= place; start++) {
                int letters = lettersAround(start, place);
                if (letters != NONE && letters < fewest) {
                    fewest = letters;
                    best = start;
                }
            }
            return best;
        }
    }
}
