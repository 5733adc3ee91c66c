import java.util.ArrayList;
import java.util.HashMap;
import java.util.HashSet;
import java.util.List;
import java.util.Map;
import java.util.Set;

/** The document told a second time, hour by hour and without any shortcut: what the class is held against. */
final class SlowInk {
    static final int BEYOND = -1000001, FULL = -1000002, KIND = -1000003, NONE = -1000004;
    static final int STATE = -1000005, MISSING = -1000006, SIZE = -1000007;

    static final class Mark {
        int kind, letter, ink, at;
        Mark(int kind, int letter, int ink, int at) { this.kind = kind; this.letter = letter; this.ink = ink; this.at = at; }
        Mark twin() { return new Mark(kind, letter, ink, at); }
    }

    static final class Page {
        boolean lit;
        List<Mark> marks = new ArrayList<>();
        Page twin() { Page p = new Page(); p.lit = lit; for (Mark m : marks) p.marks.add(m.twin()); return p; }
    }

    static final class All {
        int now, z = 1;
        int[] lasts = new int[8], price = new int[8];
        Page[] pages = new Page[4];
        int[] spotPage = new int[10];
        int[] spotMark = new int[10];
        All twin() {
            All a = new All();
            a.now = now; a.z = z; a.lasts = lasts.clone(); a.price = price.clone();
            for (int i = 0; i < 4; i++) a.pages[i] = pages[i].twin();
            a.spotPage = spotPage.clone(); a.spotMark = spotMark.clone();
            return a;
        }
    }

    All a = new All();
    All kept = null;
    StringBuilder tape = new StringBuilder();
    long[][] sheets = new long[4][];
    int[] bits = new int[4];
    int[] told = new int[7];

    SlowInk() {
        for (int i = 0; i < 8; i++) { a.lasts[i] = 24; a.price[i] = 1; }
        for (int i = 0; i < 4; i++) a.pages[i] = new Page();
        for (int i = 0; i < 10; i++) a.spotMark[i] = -1;
    }

    int f(int finding) { told[BEYOND - finding]++; return finding; }
    static boolean in(int v, int lo, int hi) { return lo <= v && v <= hi; }
    static boolean paper(int p) { return in(p, 0, 3); }
    static boolean hour(int h) { return in(h, 0, 9999); }
    boolean mark(int p, int m) { return paper(p) && in(m, 0, a.pages[p].marks.size() - 1); }

    static int stay(int kind, int lasts) {
        switch (kind) {
            case 4: return 2 * stay(1, lasts);
            case 6: return Math.max(1, stay(1, lasts) / 2);
            default: return lasts;
        }
    }
    // Added up hour by hour, once: what the hours ahead of each count in light.
    static final int[] LIT = new int[10001];
    static {
        for (int h = 0; h < 10000; h++) LIT[h + 1] = LIT[h] + (h % 24 >= 6 && h % 24 <= 17 ? 2 : 1);
    }
    static int ageOf(boolean lit, int at, int hour) {
        return lit ? LIT[hour] - LIT[at] : hour - at;
    }
    boolean isSeen(Page p, Mark m, int hour, int[] lasts) {
        return hour >= m.at && ageOf(p.lit, m.at, hour) < stay(m.kind, lasts[m.ink]);
    }
    boolean isGone(Page p, Mark m, int hour, int[] lasts) {
        return hour >= m.at && ageOf(p.lit, m.at, hour) >= stay(m.kind, lasts[m.ink]);
    }

    // The grammar by its own words: text of signs, read from the left.
    static int meaningOf(List<int[]> signs) {
        StringBuilder s = new StringBuilder();
        for (int[] g : signs) {
            switch (g[0]) {
                case 0: break;
                case 2: s.append('!'); break;
                case 3: s.append('&'); break;
                case 5: s.append('|'); break;
                default: s.append((char) ('a' + g[1]));
            }
        }
        return MEANINGS.computeIfAbsent(s.toString(), SlowInk::meaningOfSigns);
    }
    static final Map<String, Integer> MEANINGS = new HashMap<>();
    static int meaningOfSigns(String t) {
        if (!t.matches("!*[a-d]([&|]!*[a-d])*")) return -1;
        int set = 0;
        for (int truth = 0; truth < 16; truth++) {
            boolean any = false;
            for (String term : t.split("\\|")) {
                boolean all = true;
                for (String factor : term.split("&")) {
                    int noes = factor.length() - 1;
                    boolean v = (truth >> factor.charAt(noes) - 'a' & 1) == 1;
                    if (noes % 2 == 1) v = !v;
                    all &= v;
                }
                any |= all;
            }
            if (any) set |= 1 << truth;
        }
        return set;
    }
    int meaning(Page p, int hour, int[] lasts) {
        List<int[]> signs = new ArrayList<>();
        for (Mark m : p.marks) if (isSeen(p, m, hour, lasts)) signs.add(new int[] {m.kind, m.letter});
        return meaningOf(signs);
    }
    int meaning(int p, int hour) { return meaning(a.pages[p], hour, a.lasts); }
    boolean keeps(Page p, int n, int held, int[] lasts) {
        for (int h = a.now; h <= a.now + n; h++) if (meaning(p, h, lasts) != held) return false;
        return true;
    }

    int hours(int n) {
        if (!in(n, 1, 1000)) return f(BEYOND);
        if (a.now + n > 9999) return f(STATE);
        return a.now += n;
    }
    int ink(int ink, int what, int v) {
        if (!in(ink, 0, 7) || !in(what, 0, 1) || !(what == 0 ? in(v, 1, 999) : in(v, 0, 99))) return f(BEYOND);
        int[] row = what == 0 ? a.lasts : a.price;
        int was = row[ink]; row[ink] = v; return was;
    }
    int light(int p, boolean is) {
        if (!paper(p)) return f(BEYOND);
        int was = a.pages[p].lit ? 1 : 0; a.pages[p].lit = is; return was;
    }
    int write(int p, int kind, int letter, int ink) {
        if (!paper(p) || !in(kind, 0, 6) || !in(letter, 0, 3) || !in(ink, 0, 7)) return f(BEYOND);
        if (a.pages[p].marks.size() == 12) return f(FULL);
        a.pages[p].marks.add(new Mark(kind, letter, ink, a.now));
        return a.pages[p].marks.size() - 1;
    }
    int markOf(int p, int m, int what) {
        if (!mark(p, m) || !in(what, 0, 4)) return f(BEYOND);
        Mark k = a.pages[p].marks.get(m);
        return new int[] {k.kind, k.letter, k.ink, k.at, stay(k.kind, a.lasts[k.ink])}[what];
    }
    int turn(int p, int m, int kind) {
        if (!mark(p, m) || !in(kind, 0, 6)) return f(BEYOND);
        Mark k = a.pages[p].marks.get(m);
        int was = k.kind; k.kind = kind; return was;
    }
    int scratch(int p, int m) {
        if (!mark(p, m)) return f(BEYOND);
        a.pages[p].marks.remove(m);
        for (int i = 0; i < 10; i++) if (a.spotPage[i] == p && a.spotMark[i] >= m) {
            if (a.spotMark[i] == m) a.spotMark[i] = -1; else a.spotMark[i]--;
        }
        return a.pages[p].marks.size();
    }
    int copied(int p, int m, int ink) {
        if (!mark(p, m) || !in(ink, 0, 7)) return f(BEYOND);
        Mark k = a.pages[p].marks.get(m);
        int was = k.ink; k.ink = ink; k.at = a.now; return was;
    }
    int seen(int p, int h) {
        if (!paper(p) || !hour(h)) return f(BEYOND);
        int set = 0;
        for (int i = 0; i < a.pages[p].marks.size(); i++)
            if (isSeen(a.pages[p], a.pages[p].marks.get(i), h, a.lasts)) set |= 1 << i;
        return set;
    }
    int age(int p, int m, int h) {
        if (!mark(p, m) || !hour(h)) return f(BEYOND);
        Mark k = a.pages[p].marks.get(m);
        if (h < k.at) return f(STATE);
        return ageOf(a.pages[p].lit, k.at, h);
    }
    int gone(int p, int m) {
        if (!mark(p, m)) return f(BEYOND);
        Mark k = a.pages[p].marks.get(m);
        for (int h = k.at; h <= 9999; h++) if (isGone(a.pages[p], k, h, a.lasts)) return h;
        return f(NONE);
    }
    int means(int p, int h) {
        if (!paper(p) || !hour(h)) return f(BEYOND);
        return meaning(p, h);
    }
    int says(int p, int h, int truth) {
        if (!paper(p) || !hour(h) || !in(truth, 0, 15)) return f(BEYOND);
        int m = meaning(p, h);
        return m < 0 ? f(NONE) : m >> truth & 1;
    }
    int until(int p) {
        if (!paper(p)) return f(BEYOND);
        int held = meaning(p, a.now);
        for (int h = a.now + 1; h <= 9999; h++) if (meaning(p, h) != held) return h;
        return f(NONE);
    }
    int changes(int p, int from, int to) {
        if (!paper(p) || !hour(from) || !hour(to) || to <= from) return f(BEYOND);
        int n = 0;
        for (int h = from; h <= to; h++) if (h > 0 && meaning(p, h) != meaning(p, h - 1)) n++;
        return n;
    }
    int shows(int p, int m) {
        if (!paper(p) || !in(m, -1, 65535)) return f(BEYOND);
        for (int h = a.now; h <= 9999; h++) if (meaning(p, h) == m) return h;
        return f(NONE);
    }
    int often(int p, int m) {
        if (!paper(p) || !in(m, -1, 65535)) return f(BEYOND);
        int n = 0;
        for (int h = a.now; h <= 9999; h++) if (meaning(p, h) == m) n++;
        return n;
    }
    int same(int p, int q, int h) {
        if (!paper(p) || !paper(q) || !hour(h)) return f(BEYOND);
        return meaning(p, h) == meaning(q, h) ? 1 : 0;
    }
    int stays(int p, int h) {
        if (!paper(p) || !hour(h)) return f(BEYOND);
        if (h < a.now) return f(STATE);
        return keeps(a.pages[p], h - a.now, meaning(p, a.now), a.lasts) ? 1 : 0;
    }
    int cheapest(int p, int one, int other, int n) {
        if (!mark(p, one) || !mark(p, other) || one == other || !in(n, 0, 200)) return f(BEYOND);
        Page page = a.pages[p];
        if (!isSeen(page, page.marks.get(one), a.now, a.lasts) || !isSeen(page, page.marks.get(other), a.now, a.lasts)
                || a.now + n > 9999) return f(STATE);
        int held = meaning(p, a.now), best = -1, cost = 0;
        for (int code = 0; code < 78; code++) {
            int i = code / 10, j = code % 10;
            if (j > 7) continue;
            Page q = page.twin();
            q.marks.get(one).ink = i; q.marks.get(one).at = a.now;
            q.marks.get(other).ink = j; q.marks.get(other).at = a.now;
            int c = a.price[i] + a.price[j];
            if ((best < 0 || c < cost) && keeps(q, n, held, a.lasts)) { best = code; cost = c; }
        }
        return best < 0 ? f(NONE) : best;
    }
    int fewest(int p, int ink, int n) {
        if (!paper(p) || !in(ink, 0, 7) || !in(n, 0, 100)) return f(BEYOND);
        if (a.now + n > 9999) return f(STATE);
        Page page = a.pages[p];
        int held = meaning(p, a.now), best = -1, seen = seen(p, a.now);
        for (int set = 0; set < 1 << page.marks.size(); set++) {
            if ((set & ~seen) != 0 || best >= 0 && Integer.bitCount(set) >= Integer.bitCount(best)) continue;
            Page q = page.twin();
            for (int i = 0; i < q.marks.size(); i++) if ((set >> i & 1) == 1) { q.marks.get(i).ink = ink; q.marks.get(i).at = a.now; }
            if (keeps(q, n, held, a.lasts)) best = set;
        }
        return best < 0 ? f(NONE) : best;
    }
    int lasting(int p, int ink, int n) {
        if (!paper(p) || !in(ink, 0, 7) || !in(n, 0, 100)) return f(BEYOND);
        if (a.now + n > 9999) return f(STATE);
        int held = meaning(p, a.now);
        for (int v = 1; v <= 999; v++) {
            int[] lasts = a.lasts.clone();
            lasts[ink] = v;
            if (keeps(a.pages[p], n, held, lasts)) return v;
        }
        return f(NONE);
    }
    int more(int p, int place, int kind, int letter) {
        Page page = a.pages[p].twin();
        // Written NOW in an ink that lasts an hour at least it is seen NOW, even as a 13th.
        page.marks.add(place, new Mark(kind, letter, 0, a.now));
        return meaning(page, a.now, a.lasts);
    }
    int forged(int p) {
        if (!paper(p)) return f(BEYOND);
        Set<Integer> set = new HashSet<>();
        for (int place = 0; place <= a.pages[p].marks.size(); place++)
            for (int kind : new int[] {1, 2, 3, 5}) for (int letter = 0; letter < 4; letter++) set.add(more(p, place, kind, letter));
        set.remove(-1);
        return set.size();
    }
    int forge(int p, int m) {
        if (!paper(p) || !in(m, 0, 65535)) return f(BEYOND);
        for (int place = 0; place <= a.pages[p].marks.size(); place++)
            for (int kind : new int[] {1, 2, 3, 5}) for (int letter = 0; letter < (kind == 1 ? 4 : 1); letter++)
                if (more(p, place, kind, letter) == m) return 100 * place + 10 * kind + letter;
        return f(NONE);
    }
    int earliest(int p, int ink, int h) {
        if (!paper(p) || !in(ink, 0, 7) || !hour(h)) return f(BEYOND);
        for (int at = 0; at <= h; at++) if (isSeen(a.pages[p], new Mark(1, 0, ink, at), h, a.lasts)) return at;
        throw new IllegalStateException("one written at the hour itself is seen");
    }
    int latest(int p, int ink, int h) {
        if (!paper(p) || !in(ink, 0, 7) || !hour(h)) return f(BEYOND);
        for (int at = h; at >= 0; at--) if (isGone(a.pages[p], new Mark(1, 0, ink, at), h, a.lasts)) return at;
        return f(NONE);
    }
    int clerk(int p, int n, int ink) {
        if (!paper(p) || !in(n, 1, 12) || !in(ink, 0, 7)) return f(BEYOND);
        int size = a.pages[p].marks.size();
        if (size == 0) return f(STATE);
        Set<Integer> done = new HashSet<>();
        for (int i = 0; i < n; i++) {
            long z = (a.z * 1103515245L + 12345L) & 0xffffffffL;
            a.z = (int) z;
            int m = (int) ((z >> 8) % size);
            a.pages[p].marks.get(m).ink = ink; a.pages[p].marks.get(m).at = a.now;
            done.add(m);
        }
        return done.size();
    }
    int seed(int v) { int was = a.z; a.z = v; return was; }
    int feed(int bytes, int n) {
        if (!in(n, 1, 4)) return f(BEYOND);
        if (tape.length() + n > 120) return f(FULL);
        for (int i = n - 1; i >= 0; i--) tape.append((char) (bytes >> 8 * i & 255));
        return tape.length();
    }
    int wipe() { int n = tape.length(); tape.setLength(0); return n; }

    static final class Fault extends RuntimeException {
        final int place;
        Fault(int place) { super(null, null, false, false); this.place = place; }
    }
    static final class Token {
        final int place; final String text;
        Token(int place, String text) { this.place = place; this.text = text; }
    }
    static List<Token> tokens(String s) {
        List<Token> out = new ArrayList<>();
        java.util.regex.Matcher m = java.util.regex.Pattern.compile("[a-z]+|[0-9]+|[^ ]", java.util.regex.Pattern.DOTALL).matcher(s);
        while (m.find()) out.add(new Token(m.start(), m.group()));
        out.add(new Token(s.length(), ""));
        return out;
    }
    List<Token> t;
    int at;
    boolean is(String w) { return t.get(at).text.equals(w); }
    Fault fault() { return new Fault(t.get(at).place); }
    int number(int lo, int hi) {
        if (!t.get(at).text.matches("[0-9]+")) throw fault();
        java.math.BigInteger v = new java.math.BigInteger(t.get(at).text);
        if (v.bitLength() > 30 || !in(v.intValue(), lo, hi)) throw fault();
        at++;
        return v.intValue();
    }
    void want(String w) { if (!is(w)) throw fault(); at++; }
    void item() {
        if (is("ink")) {
            at++;
            int ink = number(0, 7);
            want("lasts");
            a.lasts[ink] = number(1, 999);
            if (is("price")) { at++; a.price[ink] = number(0, 99); }
        } else if (is("paper")) {
            at++;
            int p = number(0, 3);
            if (!is("light") && !is("dark")) throw fault();
            a.pages[p].lit = is("light");
            at++;
        } else {
            want("on");
            Page page = a.pages[number(0, 3)];
            int ink = 0;
            if (is("ink")) { at++; ink = number(0, 7); }
            List<String> words = List.of("blot", "", "not", "and", "bold", "or", "faint");
            int came = 0;
            while (true) {
                int kind = is("") ? -1 : t.get(at).text.matches("[a-d]") ? 1 : words.indexOf(t.get(at).text);
                if (kind < 0) { if (came == 0) throw fault(); return; }
                if (page.marks.size() == 12) throw fault();
                int letter = 0;
                if (kind == 4 || kind == 6) { at++; if (!t.get(at).text.matches("[a-d]")) throw fault(); }
                if (kind == 1 || kind == 4 || kind == 6) letter = t.get(at).text.charAt(0) - 'a';
                at++;
                page.marks.add(new Mark(kind, letter, ink, a.now));
                came++;
            }
        }
    }
    int text() {
        All was = a.twin();
        t = tokens(tape.toString());
        tape.setLength(0);
        at = 0;
        try {
            int items = 0;
            while (true) {
                item();
                items++;
                if (is("")) return items;
                want(";");
            }
        } catch (Fault fault) {
            a = was;
            return -1 - fault.place;
        }
    }
    int hold(int s, int p, int m) {
        if (!in(s, 0, 9) || !paper(p) || m != -1 && !mark(p, m)) return f(BEYOND);
        a.spotPage[s] = p; a.spotMark[s] = m; return 1;
    }
    int as(int s, int kind) {
        if (!in(s, 0, 9) || !in(kind, 0, 6)) return f(BEYOND);
        if (a.spotMark[s] < 0) return f(MISSING);
        int is = a.pages[a.spotPage[s]].marks.get(a.spotMark[s]).kind;
        boolean fits = kind == is || kind == 0 || kind == 1 && (is == 4 || is == 6) || kind == 3 && is == 5;
        return fits ? 100 * a.spotPage[s] + a.spotMark[s] : f(KIND);
    }
    int sheet(int s, int b, int n) {
        if (!in(s, 0, 3) || b != 0 && b != 8 && b != 16 && b != 32) return f(BEYOND);
        if (n < 0) return f(SIZE);
        if (n > 40) return f(BEYOND);
        sheets[s] = b == 0 ? null : new long[n];
        bits[s] = b;
        return b == 0 ? 0 : n;
    }
    int put(int s, int i, int v) {
        if (!in(s, 0, 3)) return f(BEYOND);
        if (sheets[s] == null) return f(MISSING);
        if (i < 0 || i >= sheets[s].length) return f(BEYOND);
        long w = v & (1L << bits[s]) - 1;
        if (w >= 1L << bits[s] - 1) w -= 1L << bits[s];
        sheets[s][i] = w;
        return 1;
    }
    int copy(int s, int from, int t, int to, int n) {
        if (!in(s, 0, 3) || !in(t, 0, 3)) return f(BEYOND);
        if (sheets[s] == null || sheets[t] == null) return f(MISSING);
        if (bits[s] != bits[t]) return f(KIND);
        if (from < 0 || to < 0 || n < 0 || (long) from + n > sheets[s].length || (long) to + n > sheets[t].length) return f(BEYOND);
        long[] was = sheets[s].clone();
        for (int i = 0; i < n; i++) sheets[t][to + i] = was[from + i];
        return n;
    }
    int load(int s, int p, int ink) {
        if (!in(s, 0, 3)) return f(BEYOND);
        if (sheets[s] == null) return f(MISSING);
        if (!paper(p) || !in(ink, 0, 7)) return f(BEYOND);
        int came = 0;
        for (long v : sheets[s]) {
            if (v < 0 || v > 63 || v % 10 > 3 || a.pages[p].marks.size() == 12) break;
            a.pages[p].marks.add(new Mark((int) v / 10, (int) v % 10, ink, a.now));
            came++;
        }
        return came;
    }
    int judge(int s, int p, int h) {
        if (!in(s, 0, 3)) return f(BEYOND);
        if (sheets[s] == null) return f(MISSING);
        if (!paper(p) || !hour(h)) return f(BEYOND);
        for (int i = 0; i < sheets[s].length; i++) if (h + i > 9999 || meaning(p, h + i) != sheets[s][i]) return 1 + i;
        return 0;
    }
    int image() { kept = a.twin(); return 1; }
    int undo() {
        if (kept == null) return f(NONE);
        a = kept.twin();
        return a.now;
    }
    int tear() { int was = kept == null ? 0 : 1; kept = null; return was; }
    int count(int what) {
        int n = 0;
        switch (what) {
            case 0: return a.now;
            case 1: for (Page p : a.pages) n += p.marks.size(); return n;
            case 2: for (int p = 0; p < 4; p++) n += Integer.bitCount(seen(p, a.now)); return n;
            case 3: for (int p = 0; p < 4; p++) if (meaning(p, a.now) >= 0) n++; return n;
            case 4: return tape.length();
            case 5: return a.z;
            case 6: for (int m : a.spotMark) if (m >= 0) n++; return n;
            default: return f(BEYOND);
        }
    }
    int status(int which) {
        if (!in(which, -1, 6)) return f(BEYOND);
        int all = 0;
        for (int n : told) all += n;
        return which < 0 ? all : told[which];
    }
}
