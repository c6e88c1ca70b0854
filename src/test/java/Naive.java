import java.util.ArrayList;
import java.util.Comparator;
import java.util.List;
import java.util.NoSuchElementException;
import java.util.TreeMap;

/** The document's promises once more, by its words alone and with no regard to speed, to compare BothEnds with. */
public final class Naive {
    private static final int NONE = -1;

    private String tape = "";
    private String text = "a";
    private int step = 4;
    private String cursor = "";
    private final List<Integer> grown = new ArrayList<>();
    private int faultPlace = NONE;
    private int faultKind;
    private List<int[][]> plan = java.util.Collections.singletonList(new int[][] {{0}, {0}, {0}});
    private String pattern;
    private TreeMap<Integer, int[]> outcome;
    private int tried;
    private int found;
    private List<int[]> matched = new ArrayList<>();
    private final int[] refused = new int[3];
    private TreeMap<String, List<Integer>> places;

    private void element(boolean there) {
        if (!there) { refused[0]++; throw new NoSuchElementException(); }
    }

    private void argument(boolean right) {
        if (!right) { refused[1]++; throw new IllegalArgumentException(); }
    }

    private static boolean within(int number, int from, int to) {
        return from <= number && number <= to;
    }

    private static boolean letters(String s) {
        return s.matches("[a-h]*");
    }

    private String take(int n, boolean empty) {
        String s = tape.substring(0, n);
        if (empty) tape = "";
        return s;
    }

    public int feed(int a, int b, int c, int d, int e) {
        if (tape.length() > 220) return NONE;
        StringBuilder more = new StringBuilder(tape);
        for (int number : new int[] {a, b, c, d, e}) {
            more.append((char) (number >> 24 & 255)).append((char) (number >> 16 & 255));
            more.append((char) (number >> 8 & 255)).append((char) (number & 255));
        }
        tape = more.toString();
        return tape.length();
    }

    public int text(int n) {
        argument(within(n, 1, tape.length()));
        String s = take(n, true);
        for (int i = 0; i < n; i++) {
            boolean letter = letters(s.substring(i, i + 1));
            boolean bar = s.charAt(i) == '|' && i != 0 && i != n - 1 && s.charAt(i - 1) != '|';
            if (!letter && !bar) return -1 - i;
        }
        text = s;
        places = null;
        cursor = "";
        grown.clear();
        pattern = null;
        outcome = null;
        matched.clear();
        return 0;
    }

    // A machine of states, byte by byte: 0 ahead of ORDER, 1 in it, 2 ahead of LEAST, 3 in it, 4, 5 likewise MOST, 6 ahead of ";".
    public int scheme(int n) {
        argument(within(n, 1, tape.length()));
        String s = take(n, true);
        faultKind = 0;
        faultPlace = NONE;
        List<int[][]> read = new ArrayList<>();
        int parts = 0;
        for (int i = 0; i < n && parts == 0; i++) {
            if (s.charAt(i) != ' ') {
                int j = i;
                while (j < n && Character.isDigit(s.charAt(j)) && s.charAt(j) < 128) j++;
                parts = j - i > 5 ? 5 : j - i;
                break;
            }
        }
        int state = 0;
        int k = 0;
        int[][] now = null;
        for (int i = 0; i < n && faultKind == 0; i++) {
            char c = s.charAt(i);
            boolean digit = "0123456789".indexOf(c) >= 0;
            if (c == ' ' && state % 2 == 0) continue;
            if (digit && state % 2 == 0 && state < 6) {
                if (state == 0) {
                    if (read.size() == 8) { faultKind = 3; faultPlace = i; break; }
                    now = new int[3][parts];
                }
                state++;
                k = 0;
            }
            if (digit && state % 2 == 1) {
                if (k == parts) {
                    faultKind = state == 1 && read.isEmpty() ? 3 : 1;
                } else if (!suits(now, state / 2, k, c - '0', parts)) {
                    faultKind = 2;
                } else {
                    now[state / 2][k++] = c - '0';
                }
            } else if (c == ' ' && k == parts) {
                state++;
            } else if (c == ';' && (state == 6 || state == 5 && k == parts)) {
                read.add(now);
                state = 0;
            } else {
                faultKind = 1;
            }
            if (faultKind != 0) faultPlace = i;
        }
        if (faultKind == 0 && (state != 0 || read.isEmpty())) {
            faultKind = 1;
            faultPlace = n;
        }
        if (faultKind != 0) return faultKind - 10;
        plan = read;
        return read.size();
    }

    private static boolean suits(int[][] now, int row, int k, int digit, int parts) {
        if (row > 0) {
            if (digit > 4 || k > 0 && digit < now[row][k - 1]) return false;
            return row == 1 || digit >= now[1][k];
        }
        if (digit >= parts) return false;
        boolean next = k == 0;
        for (int i = 0; i < k; i++) {
            if (now[0][i] == digit) return false;
            if (Math.abs(now[0][i] - digit) == 1) next = true;
        }
        return next;
    }

    public int fault() {
        return faultPlace;
    }

    public int step(int v) {
        argument(within(v, 1, 16));
        int was = step;
        step = v;
        return was;
    }

    public int grow(int letter, int what) {
        argument(within(letter, 'a', 'h') && within(what, 0, 1));
        if (cursor.length() == 40) { refused[2]++; throw new IllegalStateException(); }
        String longer = what == 0 ? (char) letter + cursor : cursor + (char) letter;
        if (standing(longer).isEmpty()) return 0;
        cursor = longer;
        grown.add(what);
        return standing(cursor).size();
    }

    public int shrink() {
        if (cursor.isEmpty()) return NONE;
        int side = grown.remove(grown.size() - 1);
        cursor = side == 0 ? cursor.substring(1) : cursor.substring(0, cursor.length() - 1);
        return told(7);
    }

    public int clear() {
        int had = cursor.length();
        cursor = "";
        grown.clear();
        return had;
    }

    private static List<Integer> standing(String in, String s) {
        List<Integer> at = new ArrayList<>();
        for (int i = 0; i + s.length() <= in.length(); i++) if (in.startsWith(s, i)) at.add(i);
        return at;
    }

    private List<Integer> standing(String s) {
        return standing(text, s);
    }

    private String side(int side) {
        return side == 0 ? text : new StringBuilder(text).reverse().toString();
    }

    private List<Integer> rows(int side) {
        String s = side(side).replace('|', (char) 1) + (char) 0;
        List<Integer> rows = new ArrayList<>();
        for (int i = 0; i < s.length(); i++) rows.add(i);
        rows.sort(Comparator.comparing(s::substring));
        return rows;
    }

    private int low(int side) {
        String s = side == 0 ? cursor : new StringBuilder(cursor).reverse().toString();
        List<Integer> rows = rows(side);
        for (int row = 0; row < rows.size(); row++) if (side(side).startsWith(s, rows.get(row))) return row;
        throw new AssertionError("the cursor stands nowhere");
    }

    private int budget() {
        int most = 0;
        for (int[][] search : plan) most = Math.max(most, search[2][search[2].length - 1]);
        return most;
    }

    private int parts() {
        return plan.get(0)[0].length;
    }

    public int told(int what) {
        argument(within(what, 0, 13));
        int noted = 0;
        for (int place = 0; place <= text.length(); place++) if (place % step == 0) noted++;
        switch (what) {
            case 0: return text.length();
            case 1: return text.split("\\|").length;
            case 2: return (int) text.replace("|", "").chars().distinct().count();
            case 3: return step;
            case 4: return cursor.length();
            case 5: return low(0);
            case 6: return low(1);
            case 7: return standing(cursor).size();
            case 8: return noted;
            case 9: return plan.size();
            case 10: return parts();
            case 11: return budget();
            case 12: return tape.length();
            default: return outcome == null ? NONE : outcome.size();
        }
    }

    public int sign(int place) {
        element(within(place, 0, text.length()));
        return place == text.length() ? 0 : text.charAt(place);
    }

    private int before(int side, int place) {
        return place == 0 ? 0 : side(side).charAt(place - 1);
    }

    public int row(int side, int row, int what) {
        element(within(side, 0, 1) && within(row, 0, text.length()));
        argument(within(what, 0, 6));
        List<Integer> rows = rows(side);
        int place = rows.get(row);
        String s = side(side);
        int way = 0;
        for (int walked = place; walked % step != 0; walked--) way++;
        int same = 0;
        if (row > 0) {
            String one = s.substring(place);
            String other = s.substring(rows.get(row - 1));
            while (same < one.length() && same < other.length() && one.charAt(same) == other.charAt(same)) same++;
        }
        switch (what) {
            case 0: return place;
            case 1: return place == s.length() ? 0 : s.charAt(place);
            case 2: return before(side, place);
            case 3: return place == 0 ? 0 : rows.indexOf(place - 1);
            case 4: return way == 0 ? 1 : 0;
            case 5: return way;
            default: return same;
        }
    }

    public int rowOf(int side, int place) {
        element(within(side, 0, 1) && within(place, 0, text.length()));
        return rows(side).indexOf(place);
    }

    public int count(int side, int row, int letter) {
        element(within(side, 0, 1) && within(row, 0, text.length() + 1));
        argument(within(letter, 'a', 'h'));
        int many = 0;
        List<Integer> rows = rows(side);
        for (int r = 0; r < row; r++) if (before(side, rows.get(r)) == letter) many++;
        return many;
    }

    public int letter(int k) {
        element(within(k, 0, cursor.length() - 1));
        return cursor.charAt(k);
    }

    public int grows(int what) {
        argument(within(what, 0, 1));
        int bits = 0;
        for (char c = 'a'; c <= 'h' && cursor.length() < 40; c++) {
            if (!standing(what == 0 ? c + cursor : cursor + c).isEmpty()) bits |= 1 << c - 'a';
        }
        return bits;
    }

    private int documentOf(int place) {
        return (int) text.substring(0, place).chars().filter(c -> c == '|').count();
    }

    private int firstOf(int document) {
        int first = 0;
        for (int i = 0; i < document; i++) first = text.indexOf('|', first) + 1;
        return first;
    }

    public int hit(int k, int what) {
        List<Integer> at = standing(cursor);
        element(within(k, 0, at.size() - 1));
        argument(within(what, 0, 2));
        int document = documentOf(at.get(k));
        return what == 0 ? at.get(k) : what == 1 ? document : at.get(k) - firstOf(document);
    }

    public int hits(int what) {
        argument(within(what, 0, 3));
        List<Integer> at = standing(cursor);
        if (what == 0) return (int) at.stream().map(this::documentOf).distinct().count();
        int least = NONE;
        int greatest = NONE;
        int overlaps = 0;
        for (int i = 1; i < at.size(); i++) {
            int gap = at.get(i) - at.get(i - 1);
            least = least == NONE || gap < least ? gap : least;
            greatest = gap > greatest ? gap : greatest;
            if (gap < cursor.length()) overlaps++;
        }
        return what == 1 ? least : what == 2 ? greatest : overlaps;
    }

    public int often(int n) {
        argument(within(n, 1, tape.length()) && letters(take(n, false)));
        return standing(take(n, false)).size();
    }

    private int coveredBy(int[] share) {
        int bits = 0;
        for (int s = 0; s < plan.size(); s++) {
            int[][] search = plan.get(s);
            boolean covers = true;
            for (int k = 0; k < parts(); k++) {
                int together = 0;
                for (int i = 0; i <= k; i++) together += share[search[0][i]];
                covers &= within(together, search[1][k], search[2][k]);
            }
            if (covers) bits |= 1 << s;
        }
        return bits;
    }

    private List<Integer> covers() {
        List<Integer> all = new ArrayList<>();
        int base = budget() + 1;
        for (int code = 0; code < Math.pow(base, parts()); code++) {
            int[] share = new int[parts()];
            int rest = code;
            int sum = 0;
            for (int i = 0; i < share.length; i++) {
                share[i] = rest % base;
                sum += share[i];
                rest /= base;
            }
            if (sum <= budget()) all.add(coveredBy(share));
        }
        return all;
    }

    public int shares(int what) {
        argument(within(what, 0, 2));
        List<Integer> all = covers();
        if (what == 0) return all.size();
        return (int) all.stream().filter(c -> what == 1 ? c == 0 : Integer.bitCount(c) > 1).count();
    }

    public boolean sound() {
        return covers().stream().allMatch(c -> Integer.bitCount(c) == 1);
    }

    public int needless() {
        List<Integer> all = covers();
        long covered = all.stream().filter(c -> c != 0).count();
        int bits = 0;
        for (int s = 0; s < plan.size(); s++) {
            int without = ~(1 << s);
            if (all.stream().filter(c -> (c & without) != 0).count() == covered) bits |= 1 << s;
        }
        return bits;
    }

    public int digit(int search, int k, int what) {
        element(within(search, 0, plan.size() - 1) && within(k, 0, parts() - 1));
        argument(within(what, 0, 2));
        return plan.get(search)[what][k];
    }

    public int search(int n) {
        argument(within(n, Math.max(1, parts()), Math.min(24, tape.length())) && letters(take(n, false)));
        pattern = take(n, true);
        outcome = new TreeMap<>();
        tried = 0;
        found = 0;
        for (int[][] search : plan) {
            int[] did = run(search, outcome);
            found += did[0];
            tried += did[1];
        }
        return outcome.size();
    }

    private int[] run(int[][] search, TreeMap<Integer, int[]> into) {
        int[] did = new int[2];
        part(search, 0, "", 0, did, into);
        return did;
    }

    private void part(int[][] search, int k, String done, int misses, int[] did, TreeMap<Integer, int[]> into) {
        if (k == parts()) {
            for (int place : standing(done)) {
                did[0]++;
                int[] entry = into.computeIfAbsent(place, p -> new int[] {misses, 0});
                entry[0] = Math.min(entry[0], misses);
                entry[1]++;
            }
            return;
        }
        int part = search[0][k];
        String piece = pattern.substring(part * pattern.length() / parts(), (part + 1) * pattern.length() / parts());
        inPart(search, k, piece, done, misses, did, into);
    }

    private void inPart(int[][] search, int k, String piece, String done, int misses, int[] did,
            TreeMap<Integer, int[]> into) {
        if (piece.isEmpty()) {
            if (misses >= search[1][k]) part(search, k + 1, done, misses, did, into);
            return;
        }
        boolean leftwards = false;
        for (int i = 0; i < k; i++) if (search[0][i] == search[0][k] + 1) leftwards = true;
        int last = piece.length() - 1;
        char due = leftwards ? piece.charAt(last) : piece.charAt(0);
        String rest = leftwards ? piece.substring(0, last) : piece.substring(1);
        for (char c = 'a'; c <= 'h'; c++) {
            int now = misses + (c == due ? 0 : 1);
            if (text.indexOf(c) < 0 || now > search[2][k]) continue;
            did[1]++;
            String longer = leftwards ? c + done : done + c;
            if (text.contains(longer)) inPart(search, k, rest, longer, now, did, into);
        }
    }

    public int found(int k, int what) {
        element(outcome != null && within(k, 0, outcome.size() - 1));
        argument(within(what, 0, 3));
        int place = new ArrayList<>(outcome.keySet()).get(k);
        int bits = 0;
        for (int i = 0; i < pattern.length(); i++) if (text.charAt(place + i) != pattern.charAt(i)) bits |= 1 << i;
        return what == 0 ? place : what == 3 ? bits : outcome.get(place)[what - 1];
    }

    public int result(int what) {
        argument(within(what, 0, 4));
        if (outcome == null) return NONE;
        switch (what) {
            case 0: return found;
            case 1: return tried;
            case 2: return (int) outcome.values().stream().filter(e -> e[0] == 0).count();
            case 3: return outcome.values().stream().mapToInt(e -> e[0]).max().orElse(NONE);
            default: return pattern.length();
        }
    }

    public int ran(int search, int what) {
        element(within(search, 0, plan.size() - 1));
        argument(within(what, 0, 1));
        if (outcome == null || pattern.length() < parts()) return NONE;
        return run(plan.get(search), new TreeMap<>())[what];
    }

    public int matches(int n, int least) {
        argument(within(n, 1, tape.length()) && within(least, 1, 240) && letters(take(n, false)));
        String q = take(n, true);
        matched = new ArrayList<>();
        for (int i = 0; i < n; i++) {
            for (int j = i + 1; j <= n; j++) {
                String s = q.substring(i, j);
                if (!text.contains(s)) break;
                boolean left = i > 0 && text.contains(q.substring(i - 1, j));
                boolean right = j < n && text.contains(q.substring(i, j + 1));
                if (!left && !right && j - i >= least) {
                    matched.add(new int[] {i, j - i, standing(s).size(), text.indexOf(s)});
                }
            }
        }
        return matched.size();
    }

    public int match(int k, int what) {
        element(within(k, 0, matched.size() - 1));
        argument(within(what, 0, 3));
        return matched.get(k)[what];
    }

    private TreeMap<String, List<Integer>> strings() {
        if (places != null) return places;
        places = new TreeMap<>();
        for (int i = 0; i < text.length(); i++) {
            for (int j = i + 1; j <= text.length() && text.charAt(j - 1) != '|'; j++) {
                places.computeIfAbsent(text.substring(i, j), s -> new ArrayList<>()).add(i);
            }
        }
        return places;
    }

    // Each that is no letter counts as unlike all others.
    private boolean allSame(List<Integer> at, int behind) {
        char first = 0;
        for (int place : at) {
            int next = place + behind;
            if (next < 0 || next >= text.length() || text.charAt(next) == '|') return false;
            if (first != 0 && text.charAt(next) != first) return false;
            first = text.charAt(next);
        }
        return true;
    }

    private List<String> maximalStrings(int least, int often) {
        List<String> all = new ArrayList<>();
        strings().forEach((s, at) -> {
            boolean maximal = at.size() >= 2 && !allSame(at, -1) && !allSame(at, s.length());
            if (maximal && s.length() >= least && at.size() >= often) all.add(s);
        });
        return all;
    }

    public int maximals(int least, int often) {
        argument(within(least, 1, 240) && within(often, 2, 241));
        return maximalStrings(least, often).size();
    }

    public int maximal(int k, int least, int often, int what) {
        argument(within(least, 1, 240) && within(often, 2, 241) && within(what, 0, 2));
        List<String> all = maximalStrings(least, often);
        element(within(k, 0, all.size() - 1));
        List<Integer> at = strings().get(all.get(k));
        return what == 0 ? all.get(k).length() : what == 1 ? at.get(0) : at.size();
    }

    public int strings(int length) {
        argument(within(length, 1, 240));
        return (int) strings().keySet().stream().filter(s -> s.length() == length).count();
    }

    public int repeat(int what) {
        argument(within(what, 0, 2));
        int[] best = {0, NONE, 0};
        strings().forEach((s, at) -> {
            boolean better = s.length() > best[0] || s.length() == best[0] && at.get(0) < best[1];
            if (at.size() >= 2 && better) {
                best[0] = s.length();
                best[1] = at.get(0);
                best[2] = at.size();
            }
        });
        return best[what];
    }

    private boolean alone(int from, int to) {
        List<Integer> at = strings().get(text.substring(from, to));
        return at != null && at.size() == 1;
    }

    public int unique(int place) {
        element(within(place, 0, text.length()));
        for (int to = place + 1; to <= text.length(); to++) if (alone(place, to)) return to - place;
        return NONE;
    }

    public int around(int place, int what) {
        element(within(place, 0, text.length()));
        argument(within(what, 0, 1));
        for (int length = 1; length <= text.length(); length++) {
            for (int from = Math.max(0, place - length + 1); from <= place; from++) {
                if (from + length <= text.length() && alone(from, from + length)) return what == 0 ? length : from;
            }
        }
        return NONE;
    }

    public int common(int what) {
        argument(within(what, 0, 1));
        int[] best = {0, NONE};
        strings().forEach((s, at) -> {
            boolean all = true;
            for (String document : text.split("\\|")) all &= document.contains(s);
            boolean better = s.length() > best[0] || s.length() == best[0] && at.get(0) < best[1];
            if (all && better) {
                best[0] = s.length();
                best[1] = at.get(0);
            }
        });
        return best[what];
    }

    public int document(int document, int what) {
        String[] documents = text.split("\\|");
        element(within(document, 0, documents.length - 1));
        argument(within(what, 0, 2));
        int hits = (int) standing(cursor).stream().filter(p -> documentOf(p) == document).count();
        return what == 0 ? firstOf(document) : what == 1 ? documents[document].length() : hits;
    }

    public long print(int side) {
        element(within(side, 0, 1));
        long sum = 0;
        for (int place : rows(side)) sum = sum * 31 + before(side, place);
        return sum;
    }

    public int status(int what) {
        return within(what, 0, 2) ? refused[what] : NONE;
    }
}
