/** Promises 33 to 39: hold, as, sheet, put, copy, load, judge. */
public final class SpotsSheetsTest {
    private static final Due due = new Due("SpotsSheetsTest");

    public static void main(String[] args) {
        hold();
        as();
        sheet();
        put();
        copy();
        load();
        judge();
        due.end();
    }

    /** What a number of a sheet is, asked by the only call that tells: a paper that means it. */
    private static void holds(InkHours x, int s, int i, int want, String call) {
        // A sheet of its own with the one number, against a meaning that is had or not.
        int bits = x.copy(s, i, 3, 0, 1);
        due.is(call.concat(": copied"), bits, 1);
        due.is(call, x.judge(3, 3, 0), want == x.means(3, 0) ? 0 : 1);
    }

    private static void hold() {
        InkHours x = new InkHours();
        due.is("33: no mark", x.hold(0, 0, 0), Due.BEYOND);
        x.write(3, 1, 0, 0);
        due.is("33: hold", x.hold(9, 3, 0), 1);
        due.is("33: it does", x.as(9, 0), 300);
        due.is("33: nothing", x.hold(9, 0, -1), 1);
        due.is("33: it does", x.as(9, 0), Due.MISSING);
        int[][] wrong = {{-1, 3, 0}, {10, 3, 0}, {0, 4, 0}, {0, -1, 0}, {0, 3, 1}, {0, 3, -2}, {0, 4, -1}, {0, -1, -1}, {10, 0, -1}};
        for (int[] w : wrong) due.is("33: wrong", x.hold(w[0], w[1], w[2]), Due.BEYOND);
        due.is("33: count", x.count(6), 0);
        x.hold(0, 3, 0);
        x.hold(1, 3, 0);
        due.is("33: two of the same", x.count(6), 2);
    }

    private static void as() {
        InkHours x = new InkHours();
        String[] fits = {"0", "01", "02", "03", "014", "035", "016"};
        for (int kind = 0; kind < 7; kind++) {
            x.write(2, kind, 0, 0);
            x.hold(kind, 2, kind);
            for (int asked = 0; asked < 7; asked++) {
                boolean is = fits[kind].indexOf('0' + asked) >= 0;
                due.is("34: " + kind + " as " + asked, x.as(kind, asked), is ? 200 + kind : Due.KIND);
            }
        }
        x.turn(2, 0, 6);
        due.is("34: as it is now", x.as(0, 1), 200);
        due.is("34: nothing", x.as(7, 0), Due.MISSING);
        due.is("34: wrong comes first", x.as(7, 7), Due.BEYOND);
        due.is("34: wrong", x.as(0, -1), Due.BEYOND);
        due.is("34: wrong", x.as(-1, 0), Due.BEYOND);
        due.is("34: wrong", x.as(10, 0), Due.BEYOND);
    }

    private static void sheet() {
        InkHours x = new InkHours();
        due.is("35: 8 bits", x.sheet(0, 8, 40), 40);
        due.is("35: 16 bits", x.sheet(1, 16, 1), 1);
        due.is("35: 32 bits", x.sheet(3, 32, 0), 0);
        due.is("35: without numbers it isn't missing", x.put(3, 0, 0), Due.BEYOND);
        x.put(0, 39, 5);
        due.is("35: anew", x.sheet(0, 8, 40), 40);
        x.sheet(3, 8, 1);
        holds(x, 0, 39, 0, "35: all are 0");
        x.put(0, 0, -1);
        x.sheet(0, 8, 40);
        holds(x, 0, 0, 0, "35: all are 0");
        due.is("35: missing", x.sheet(0, 0, 40), 0);
        due.is("35: it is", x.put(0, 0, 0), Due.MISSING);
        due.is("35: shorter", x.sheet(0, 8, 2), 2);
        due.is("35: it is", x.put(0, 2, 0), Due.BEYOND);
        due.is("35: no such sheet", x.sheet(4, 8, 1), Due.BEYOND);
        due.is("35: no such sheet", x.sheet(-1, 8, 1), Due.BEYOND);
        due.is("35: no such bits", x.sheet(0, 7, -1), Due.BEYOND);
        due.is("35: no such bits", x.sheet(0, 64, 1), Due.BEYOND);
        due.is("35: no such bits", x.sheet(0, -8, 1), Due.BEYOND);
        due.is("35: below 0", x.sheet(0, 8, -1), Due.SIZE);
        due.is("35: below 0", x.sheet(0, 0, Integer.MIN_VALUE), Due.SIZE);
        due.is("35: above 40", x.sheet(0, 8, 41), Due.BEYOND);
        due.is("35: above 40", x.sheet(0, 0, 41), Due.BEYOND);
        due.is("35: it is as it was", x.put(0, 1, 0), 1);
    }

    private static void put() {
        InkHours x = new InkHours();
        due.is("36: missing", x.put(0, 0, 0), Due.MISSING);
        due.is("36: no such sheet", x.put(4, 0, 0), Due.BEYOND);
        due.is("36: no such sheet", x.put(-1, 0, 0), Due.BEYOND);
        int[] bits = {8, 16, 32};
        // Each becomes -1, the meaning of an empty paper, or does not.
        int[][] lowest = {{255, 0x1ff, -1, 0x7fffffff}, {65535, 0x1ffff, -1, 0x7fffffff}, {-1}};
        int[][] others = {{254, 127, 0x100, 0}, {255, 65534, 32767, 0x10000}, {255, 65535, 0x7fffffff, 0}};
        for (int b = 0; b < 3; b++) {
            x.sheet(0, bits[b], 2);
            x.sheet(3, bits[b], 1);
            for (int v : lowest[b]) {
                due.is("36: put", x.put(0, 1, v), 1);
                holds(x, 0, 1, -1, "36: " + v + " of " + bits[b]);
            }
            for (int v : others[b]) {
                due.is("36: put", x.put(0, 1, v), 1);
                holds(x, 0, 1, 0, "36: " + v + " of " + bits[b]);
            }
            holds(x, 0, 0, 0, "36: the other one stays");
        }
        due.is("36: no such number", x.put(0, 2, 0), Due.BEYOND);
        due.is("36: no such number", x.put(0, -1, 0), Due.BEYOND);
    }

    /** A sheet's numbers as marks of a paper: a way to see them all. */
    private static String marks(InkHours x, int s, int paper) {
        x.load(s, paper, 0);
        StringBuilder out = new StringBuilder();
        for (int k = 0; x.markOf(paper, k, 0) >= 0; k++) out.append(x.markOf(paper, k, 1));
        while (x.scratch(paper, 0) >= 0) continue;
        return out.toString();
    }

    private static void copy() {
        InkHours x = new InkHours();
        x.sheet(0, 8, 6);
        x.sheet(1, 8, 4);
        for (int i = 0; i < 6; i++) x.put(0, i, i % 4);
        due.is("37: copy", x.copy(0, 1, 1, 2, 2), 2);
        due.is("37: it came", marks(x, 1, 0).equals("0012") ? 1 : 0, 1);
        due.is("37: upwards in itself", x.copy(0, 0, 0, 2, 4), 4);
        due.is("37: as they all were", marks(x, 0, 0).equals("010123") ? 1 : 0, 1);
        due.is("37: downwards in itself", x.copy(0, 2, 0, 1, 4), 4);
        due.is("37: as they all were", marks(x, 0, 0).equals("001233") ? 1 : 0, 1);
        due.is("37: none", x.copy(0, 6, 1, 4, 0), 0);
        due.is("37: all", x.copy(1, 0, 0, 2, 4), 4);
        int[][] wrong = {{0, 7, 1, 0, 0}, {0, 0, 1, 5, 0}, {0, 3, 1, 0, 4}, {0, 0, 1, 1, 4}, {0, -1, 1, 0, 1}, {0, 0, 1, -1, 1}, {0, 0, 1, 0, -1},
            {4, 0, 0, 0, 0}, {0, 0, 4, 0, 0}, {-1, 0, 0, 0, 0}, {0, 0, -1, 0, 0}, {0, Integer.MAX_VALUE, 1, 0, 1}, {0, 1, 1, 0, Integer.MAX_VALUE},
            {0, 0, 1, Integer.MAX_VALUE, 1}, {0, Integer.MIN_VALUE, 1, 0, Integer.MIN_VALUE}};
        for (int[] w : wrong) due.is("37: wrong", x.copy(w[0], w[1], w[2], w[3], w[4]), Due.BEYOND);
        due.is("37: missing", x.copy(0, -1, 2, 0, 0), Due.MISSING);
        due.is("37: missing", x.copy(2, 0, 0, 0, 0), Due.MISSING);
        x.sheet(2, 16, 6);
        due.is("37: not of as many bits", x.copy(0, -1, 2, 0, 1), Due.KIND);
        due.is("37: a wrong sheet comes first", x.copy(4, 0, 3, 0, 1), Due.BEYOND);
    }

    private static void load() {
        InkHours x = new InkHours();
        x.hours(4);
        due.is("38: missing", x.load(0, 4, 0), Due.MISSING);
        due.is("38: no such sheet", x.load(4, 0, 0), Due.BEYOND);
        x.sheet(0, 8, 20);
        due.is("38: no such paper", x.load(0, 4, 0), Due.BEYOND);
        due.is("38: no such paper", x.load(0, -1, 0), Due.BEYOND);
        due.is("38: no such ink", x.load(0, 0, 8), Due.BEYOND);
        due.is("38: no such ink", x.load(0, 0, -1), Due.BEYOND);
        int[] numbers = {63, 50, 0, 12};
        for (int i = 0; i < 4; i++) x.put(0, i, numbers[i]);
        int[] none = {4, 9, 14, 64, 70, 127, -1, -10, 255};
        for (int v : none) {
            x.put(0, 4, v);
            due.is("38: up to " + v, x.load(0, 1, 6), 4);
            for (int i = 0; i < 4; i++) {
                due.is("38: kind", x.markOf(1, i, 0), numbers[i] / 10);
                due.is("38: letter", x.markOf(1, i, 1), numbers[i] % 10);
                due.is("38: ink", x.markOf(1, i, 2), 6);
                due.is("38: at", x.markOf(1, i, 3), 4);
            }
            for (int i = 0; i < 4; i++) x.scratch(1, 0);
        }
        x.put(0, 4, 0);
        due.is("38: up to 12", x.load(0, 1, 0), 12);
        due.is("38: no room", x.load(0, 1, 0), 0);
        x.write(2, 1, 0, 0);
        due.is("38: behind those that there are", x.load(0, 2, 0), 11);
        x.sheet(0, 8, 0);
        due.is("38: empty", x.load(0, 3, 0), 0);
        x.sheet(0, 32, 3);
        due.is("38: to its end", x.load(0, 3, 0), 3);
    }

    private static void judge() {
        InkHours x = new InkHours();
        Due.read(x, "ink 0 lasts 3;on 0 a;on 1 ink 1 a or not a");
        due.is("39: missing", x.judge(0, 4, 0), Due.MISSING);
        due.is("39: no such sheet", x.judge(4, 0, 0), Due.BEYOND);
        x.sheet(0, 32, 4);
        for (int i = 0; i < 3; i++) x.put(0, i, Due.A);
        x.put(0, 3, -1);
        due.is("39: all are", x.judge(0, 0, 0), 0);
        due.is("39: not at 2", x.judge(0, 0, 1), 3);
        due.is("39: not at the first", x.judge(0, 0, 3), 1);
        x.put(0, 3, 0);
        due.is("39: not at the last", x.judge(0, 0, 0), 4);
        due.is("39: no such paper", x.judge(0, 4, 0), Due.BEYOND);
        due.is("39: no such paper", x.judge(0, -1, 0), Due.BEYOND);
        due.is("39: no such hour", x.judge(0, 0, -1), Due.BEYOND);
        due.is("39: no such hour", x.judge(0, 0, 10000), Due.BEYOND);
        for (int i = 0; i < 4; i++) x.put(0, i, -1);
        due.is("39: up to 9999", x.judge(0, 0, 9996), 0);
        due.is("39: no hour for it", x.judge(0, 0, 9997), 4);
        due.is("39: no hour for them", x.judge(0, 0, 9999), 2);
        x.sheet(1, 16, 1);
        x.put(1, 0, 65535);
        due.is("39: of 16 bits that is -1", x.judge(1, 1, 0), 1);
        due.is("39: which is no meaning", x.judge(1, 2, 0), 0);
        x.sheet(2, 8, 0);
        due.is("39: without numbers", x.judge(2, 0, 0), 0);
    }
}
