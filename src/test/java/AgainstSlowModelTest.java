import java.lang.reflect.InvocationTargetException;
import java.lang.reflect.Method;
import java.util.ArrayList;
import java.util.Arrays;
import java.util.List;
import java.util.Random;

/** Long runs of drawn calls: the class and the slow telling of the document must answer alike. */
public final class AgainstSlowModelTest {
    private static final String[] WORDS = {
        "ink", "lasts", "price", "paper", "light", "dark", "on", "a", "b", "c", "d", "not", "and", "or", "bold", "faint", "blot",
        "0", "1", "2", "3", "7", "8", "99", "100", "999", "1000", "10000", "00", "007", ";", "x", "A", "ab", "\t", "\u00e9", "ink0"
    };
    private final Random random;
    private final List<String> calls = new ArrayList<>();
    private InkHours fast;
    private SlowInk slow;
    private boolean wrong;

    private AgainstSlowModelTest(long seed) { random = new Random(seed); }

    public static void main(String[] args) throws Exception {
        int runs = args.length > 0 ? Integer.parseInt(args[0]) : 400;
        long first = args.length > 1 ? Long.parseLong(args[1]) : 1;
        int failed = 0;
        for (long seed = first; seed < first + runs; seed++) {
            AgainstSlowModelTest test = new AgainstSlowModelTest(seed);
            if (!test.run()) failed++;
        }
        System.out.println("AgainstSlowModelTest: " + (runs - failed) + " runs alike, " + failed + " unlike");
        if (failed > 0) System.exit(1);
    }

    private boolean run() throws Exception {
        fast = new InkHours();
        slow = new SlowInk();
        // Inks of like and of unlike lengths, so that marks go together or apart.
        int longest = new int[] {3, 12, 40, 120, 999}[random.nextInt(5)];
        for (int i = 0; i < 8; i++) {
            call("ink", i, 0, 1 + random.nextInt(longest));
            call("ink", i, 1, random.nextInt(random.nextBoolean() ? 4 : 100));
        }
        if (random.nextInt(4) == 0) for (int i = 0; i < 9; i++) call("hours", 1000);
        for (int i = 0; i < 480 && !wrong; i++) step();
        return !wrong;
    }

    private int few(int n) { return random.nextInt(40) == 0 ? odd() : random.nextInt(n); }
    private int odd() {
        int[] odd = {-1, -2, 4, 7, 8, 10, 12, 13, 16, 40, 41, 100, 101, 200, 201, 999, 1000, 1001, 9999, 10000, 65535, 65536,
            Integer.MAX_VALUE, Integer.MIN_VALUE};
        return odd[random.nextInt(odd.length)];
    }
    private int page() { return few(random.nextInt(3) == 0 ? 4 : 2); }
    private int size(int p) { return p >= 0 && p < 4 ? slow.a.pages[p].marks.size() : 0; }
    private int mark(int p) { return few(Math.max(1, size(p))); }
    private int hour() {
        if (random.nextInt(30) == 0) return odd();
        if (random.nextInt(6) == 0) return random.nextInt(10000);
        return Math.min(9999, Math.max(0, slow.a.now - 10 + random.nextInt(60)));
    }
    private int meaning(int p) {
        if (random.nextInt(20) == 0) return odd();
        if (random.nextInt(4) == 0 || p < 0 || p > 3) return random.nextInt(8) == 0 ? -1 : random.nextInt(65536);
        return slow.meaning(p, Math.min(9999, slow.a.now + random.nextInt(50)));
    }
    private int near(int p) {
        // A meaning that one mark more can make, if it is drawn so.
        if (p < 0 || p > 3) return 0;
        return slow.more(p, random.nextInt(size(p) + 1), new int[] {1, 2, 3, 5}[random.nextInt(4)], random.nextInt(4));
    }

    private void sentence(int p) throws Exception {
        // Behind the rest of another one it would seldom be a sentence.
        for (int k = size(p); k > 0 && random.nextInt(24) != 0; k--) call("scratch", p, k - 1);
        int words = 1 + random.nextInt(4);
        for (int i = 0; i < words; i++) {
            int ink = few(8);
            if (i > 0) call("write", p, random.nextInt(3) == 0 ? 5 : 3, few(4), ink);
            if (random.nextInt(12) == 0) call("write", p, 0, few(4), few(8));
            for (int k = random.nextInt(3); k > 0; k--) call("write", p, 2, few(4), random.nextBoolean() ? ink : few(8));
            call("write", p, new int[] {1, 1, 4, 6}[random.nextInt(4)], few(4), random.nextBoolean() ? ink : few(8));
        }
    }
    private void tape() throws Exception {
        StringBuilder s = new StringBuilder();
        int items = 1 + random.nextInt(4);
        for (int i = 0; i < items; i++) {
            if (i > 0) s.append(";");
            item(s);
        }
        while (random.nextInt(3) == 0) spoil(s);
        String t = s.toString();
        for (int i = 0; i < t.length(); ) {
            int n = Math.min(t.length() - i, random.nextInt(6) == 0 ? 1 + random.nextInt(3) : 4), v = random.nextInt();
            for (int k = 0; k < n; k++) v = v << 8 | t.charAt(i + k) & 255;
            call("feed", v, n);
            i += n;
        }
        call("text");
    }
    private String blank() { return random.nextInt(4) == 0 ? "  " : " "; }
    private void item(StringBuilder s) {
        switch (random.nextInt(3)) {
            case 0:
                s.append("ink ").append(random.nextInt(8)).append(" lasts ").append(1 + random.nextInt(60));
                if (random.nextBoolean()) s.append(blank()).append("price").append(random.nextInt(100));
                break;
            case 1:
                s.append("paper").append(blank()).append(random.nextInt(4)).append(random.nextBoolean() ? "light" : " dark").append(random.nextBoolean() ? " " : "");
                break;
            default:
                s.append("on ").append(random.nextInt(4));
                if (random.nextBoolean()) s.append(" ink ").append(random.nextInt(8));
                for (int k = 1 + random.nextInt(6); k > 0; k--) {
                    s.append(blank()).append(WORDS[7 + random.nextInt(10)]);
                    if (s.toString().endsWith("bold") || s.toString().endsWith("faint")) s.append(" ").append(WORDS[7 + random.nextInt(4)]);
                }
        }
    }
    private void spoil(StringBuilder s) {
        int at = random.nextInt(s.length() + 1);
        switch (random.nextInt(3)) {
            case 0: s.insert(at, WORDS[random.nextInt(WORDS.length)]); break;
            case 1: s.insert(at, " " + WORDS[random.nextInt(WORDS.length)] + " "); break;
            default: s.delete(at, Math.min(s.length(), at + 1 + random.nextInt(4)));
        }
    }

    private void step() throws Exception {
        int p = page();
        switch (random.nextInt(60)) {
            case 0: case 1: call("hours", random.nextInt(10) == 0 ? odd() : 1 + random.nextInt(random.nextInt(20) == 0 ? 1000 : 8)); break;
            case 2: call("ink", few(8), few(2), random.nextInt(8) == 0 ? odd() : random.nextInt(50)); break;
            case 3: call("light", p, random.nextBoolean()); break;
            case 4: case 5: sentence(p); break;
            case 6: call("write", p, few(7), few(4), few(8)); break;
            case 7: case 8: call("markOf", p, mark(p), few(5)); break;
            case 9: call("turn", p, mark(p), few(7)); break;
            case 10: call("scratch", p, mark(p)); break;
            case 11: for (int k = random.nextInt(8); k > 0 && size(p) > 0; k--) call("scratch", p, random.nextInt(size(p))); break;
            case 12: call("copied", p, mark(p), few(8)); break;
            case 13: call("seen", p, hour()); break;
            case 14: call("age", p, mark(p), hour()); break;
            case 15: call("gone", p, mark(p)); break;
            case 16: call("means", p, hour()); break;
            case 17: call("says", p, hour(), few(16)); break;
            case 18: call("until", p); break;
            case 19: call("changes", p, hour(), hour()); break;
            case 20: call("shows", p, meaning(p)); break;
            case 21: call("often", p, meaning(p)); break;
            case 22: call("same", p, page(), hour()); break;
            case 23: call("stays", p, hour()); break;
            case 24: case 25: call("cheapest", p, mark(p), mark(p), random.nextInt(20) == 0 ? odd() : random.nextInt(random.nextBoolean() ? 20 : 201)); break;
            case 26: case 27: call("fewest", p, few(8), random.nextInt(20) == 0 ? odd() : random.nextInt(random.nextBoolean() ? 15 : 101)); break;
            case 28: call("lasting", p, few(8), random.nextInt(20) == 0 ? odd() : random.nextInt(random.nextBoolean() ? 15 : 101)); break;
            case 29: call("forged", p); break;
            case 30: call("forge", p, random.nextInt(4) == 0 ? meaning(p) : near(p)); break;
            case 31: call("earliest", p, few(8), hour()); break;
            case 32: call("latest", p, few(8), hour()); break;
            case 33: call("clerk", p, random.nextInt(20) == 0 ? odd() : 1 + random.nextInt(12), few(8)); break;
            case 34: call("seed", random.nextInt()); break;
            case 35: call("feed", random.nextInt(), few(5)); break;
            case 36: call("wipe"); break;
            case 37: tape(); break;
            case 38: case 39: case 57: case 58: sentence(p); break;
            case 40: case 41: call("hold", random.nextInt(3), p, random.nextInt(8) == 0 ? -1 : mark(p)); break;
            case 42: call("hold", few(10), p, mark(p)); break;
            case 43: case 59: call("as", random.nextInt(3), few(7)); call("as", few(10), few(7)); break;
            case 44: call("sheet", few(4), new int[] {0, 8, 16, 32, 8, 16, 32, 9}[random.nextInt(8)], random.nextInt(10) == 0 ? odd() : random.nextInt(41)); break;
            case 45: case 46: call("put", few(4), few(20), random.nextInt(3) == 0 ? random.nextInt() : random.nextInt(66)); break;
            case 47: call("copy", few(4), few(12), few(4), few(12), few(12)); break;
            case 48: call("load", few(4), p, few(8)); break;
            case 49: judged(p); break;
            case 50: call("judge", few(4), p, hour()); break;
            case 51: call("image"); break;
            case 52: if (random.nextInt(3) == 0) call("undo"); break;
            case 53: if (random.nextInt(3) == 0) call("tear"); break;
            case 54: case 55: call("count", few(7)); break;
            case 56: call("status", few(8) - 1); break;
            default: call("count", random.nextInt(7));
        }
    }
    private void judged(int p) throws Exception {
        if (p < 0 || p > 3) return;
        int s = random.nextInt(4), n = 1 + random.nextInt(5), h = Math.max(0, Math.min(9999, hour()));
        call("sheet", s, random.nextInt(4) == 0 ? 16 : 32, n);
        for (int i = 0; i < n; i++) {
            int v = h + i > 9999 ? -1 : slow.meaning(p, h + i);
            call("put", s, i, random.nextInt(12) == 0 ? 1 : v);
        }
        call("judge", s, p, h);
    }

    private void call(String name, Object... args) throws Exception {
        if (wrong || calls.size() >= 512) return;
        calls.add(name + Arrays.toString(args));
        int want = answer(slow, name, args);
        int got = answer(fast, name, args);
        if (want != got) {
            wrong = true;
            for (String c : calls) System.out.println("  " + c);
            System.out.println("the last one answered " + got + ", due is " + want);
        }
    }
    private static int answer(Object of, String name, Object[] args) throws Exception {
        Class<?>[] types = new Class<?>[args.length];
        for (int i = 0; i < args.length; i++) types[i] = args[i] instanceof Boolean ? boolean.class : int.class;
        Method m = of.getClass().getDeclaredMethod(name, types);
        m.setAccessible(true);
        try {
            return (Integer) m.invoke(of, args);
        } catch (InvocationTargetException thrown) {
            throw new IllegalStateException(name + Arrays.toString(args), thrown.getCause());
        }
    }
}
