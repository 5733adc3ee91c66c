/** Promises 1 to 9: a new object, hours, ink, light, write, markOf, turn, scratch, copied. */
public final class HoursInksPapersTest {
    private static final Due due = new Due("HoursInksPapersTest");

    public static void main(String[] args) {
        newObject();
        hours();
        inks();
        lights();
        write();
        markOf();
        turn();
        scratch();
        copied();
        due.end();
    }

    private static void newObject() {
        InkHours x = new InkHours();
        for (int what = 0; what <= 6; what++) due.is("1: count(" + what + ")", x.count(what), what == 5 ? 1 : 0);
        for (int which = -1; which <= 6; which++) due.is("1: status(" + which + ")", x.status(which), 0);
        for (int i = 0; i < 8; i++) {
            due.is("1: lasts", x.ink(i, 0, 3), 24);
            due.is("1: price", x.ink(i, 1, 3), 1);
        }
        for (int p = 0; p < 4; p++) {
            due.is("1: light", x.light(p, false), 0);
            due.is("1: seen", x.seen(p, 0), 0);
        }
        for (int s = 0; s < 10; s++) due.is("1: spots", x.as(s, 0), Due.MISSING);
        for (int s = 0; s < 4; s++) due.is("1: sheets", x.put(s, 0, 0), Due.MISSING);
        due.is("1: tape", x.wipe(), 0);
        due.is("1: no image", x.undo(), Due.NONE);
        due.is("1: no image", x.tear(), 0);
    }

    private static void hours() {
        InkHours x = new InkHours();
        due.is("2: 0 hours", x.hours(0), Due.BEYOND);
        due.is("2: -1 hours", x.hours(-1), Due.BEYOND);
        due.is("2: 1001 hours", x.hours(1001), Due.BEYOND);
        due.is("2: most int", x.hours(Integer.MAX_VALUE), Due.BEYOND);
        due.is("2: 1 hour", x.hours(1), 1);
        for (int i = 1; i <= 9; i++) due.is("2: 1000 hours", x.hours(1000), 1 + 1000 * i);
        due.is("2: above 9999", x.hours(999), Due.STATE);
        due.is("2: nothing changed", x.count(0), 9001);
        due.is("2: up to 9999", x.hours(998), 9999);
        due.is("2: full", x.hours(1), Due.STATE);
        due.is("2: beyond comes first", x.hours(1001), Due.BEYOND);
    }

    private static void inks() {
        InkHours x = new InkHours();
        due.is("3: lasts", x.ink(7, 0, 999), 24);
        due.is("3: lasts again", x.ink(7, 0, 1), 999);
        due.is("3: price", x.ink(7, 1, 99), 1);
        due.is("3: price again", x.ink(7, 1, 0), 99);
        due.is("3: price is 0", x.ink(7, 1, 5), 0);
        due.is("3: other inks stay", x.ink(6, 0, 24), 24);
        int[][] wrong = {{-1, 0, 5}, {8, 0, 5}, {0, -1, 5}, {0, 2, 5}, {0, 0, 0}, {0, 0, 1000}, {0, 0, -1}, {0, 1, -1}, {0, 1, 100}};
        for (int[] w : wrong) due.is("3: wrong", x.ink(w[0], w[1], w[2]), Due.BEYOND);
        due.is("3: they changed nothing", x.ink(0, 0, 24), 24);
        due.is("3: they changed nothing", x.ink(0, 1, 1), 1);
    }

    private static void lights() {
        InkHours x = new InkHours();
        due.is("4: into light", x.light(3, true), 0);
        due.is("4: stays in light", x.light(3, true), 1);
        due.is("4: out of it", x.light(3, false), 1);
        due.is("4: dark", x.light(3, false), 0);
        due.is("4: wrong", x.light(-1, true), Due.BEYOND);
        due.is("4: wrong", x.light(4, true), Due.BEYOND);
    }

    private static void write() {
        InkHours x = new InkHours();
        x.hours(5);
        for (int i = 0; i < 12; i++) due.is("5: write", x.write(1, i % 7, i % 4, i % 8), i);
        for (int i = 0; i < 12; i++) {
            due.is("5: kind", x.markOf(1, i, 0), i % 7);
            due.is("5: letter", x.markOf(1, i, 1), i % 4);
            due.is("5: ink", x.markOf(1, i, 2), i % 8);
            due.is("5: at", x.markOf(1, i, 3), 5);
        }
        due.is("5: a 13th", x.write(1, 0, 0, 0), Due.FULL);
        due.is("5: beyond comes first", x.write(1, 7, 0, 0), Due.BEYOND);
        due.is("5: another paper", x.write(2, 6, 3, 7), 0);
        int[][] wrong = {{-1, 0, 0, 0}, {4, 0, 0, 0}, {0, -1, 0, 0}, {0, 7, 0, 0}, {0, 0, -1, 0}, {0, 0, 4, 0}, {0, 0, 0, -1}, {0, 0, 0, 8}};
        for (int[] w : wrong) due.is("5: wrong", x.write(w[0], w[1], w[2], w[3]), Due.BEYOND);
        due.is("5: count", x.count(1), 13);
    }

    private static void markOf() {
        InkHours x = new InkHours();
        x.ink(2, 0, 7);
        x.ink(3, 0, 1);
        int[] stays = {7, 7, 7, 7, 14, 7, 3};
        for (int kind = 0; kind < 7; kind++) {
            x.write(0, kind, 3, 2);
            due.is("6: stays of kind " + kind, x.markOf(0, kind, 4), stays[kind]);
        }
        x.write(0, 6, 0, 3);
        due.is("6: a faint one stays 1 at least", x.markOf(0, 7, 4), 1);
        x.ink(3, 0, 999);
        due.is("6: stays as the ink lasts now", x.markOf(0, 7, 4), 499);
        x.write(0, 4, 0, 3);
        due.is("6: longest", x.markOf(0, 8, 4), 1998);
        due.is("6: letter of any kind", x.markOf(0, 2, 1), 3);
        int[][] wrong = {{-1, 0, 0}, {4, 0, 0}, {0, -1, 0}, {0, 9, 0}, {1, 0, 0}, {0, 0, -1}, {0, 0, 5}};
        for (int[] w : wrong) due.is("6: wrong", x.markOf(w[0], w[1], w[2]), Due.BEYOND);
    }

    private static void turn() {
        InkHours x = new InkHours();
        x.write(0, 1, 2, 5);
        x.hours(3);
        due.is("7: turn", x.turn(0, 0, 6), 1);
        due.is("7: turn on", x.turn(0, 0, 4), 6);
        due.is("7: the same kind", x.turn(0, 0, 4), 4);
        due.is("7: letter stays", x.markOf(0, 0, 1), 2);
        due.is("7: ink stays", x.markOf(0, 0, 2), 5);
        due.is("7: at stays", x.markOf(0, 0, 3), 0);
        int[][] wrong = {{-1, 0, 0}, {4, 0, 0}, {0, -1, 0}, {0, 1, 0}, {0, 0, -1}, {0, 0, 7}};
        for (int[] w : wrong) due.is("7: wrong", x.turn(w[0], w[1], w[2]), Due.BEYOND);
        due.is("7: they changed nothing", x.markOf(0, 0, 0), 4);
    }

    private static void scratch() {
        InkHours x = new InkHours();
        for (int i = 0; i < 4; i++) x.write(0, 1, i, i);
        x.write(1, 2, 0, 0);
        x.hold(0, 0, 0);
        x.hold(1, 0, 1);
        x.hold(2, 0, 3);
        x.hold(3, 1, 0);
        x.hold(4, 0, 1);
        due.is("8: scratch", x.scratch(0, 1), 3);
        due.is("8: one ahead stays", x.markOf(0, 0, 1), 0);
        due.is("8: one behind comes", x.markOf(0, 1, 1), 2);
        due.is("8: with its ink", x.markOf(0, 2, 2), 3);
        due.is("8: no fourth", x.markOf(0, 3, 0), Due.BEYOND);
        due.is("8: spot ahead", x.as(0, 0), 0);
        due.is("8: spot of it", x.as(1, 0), Due.MISSING);
        due.is("8: the other spot of it", x.as(4, 0), Due.MISSING);
        due.is("8: spot behind", x.as(2, 0), 2);
        due.is("8: spot on another paper", x.as(3, 0), 100);
        due.is("8: wrong", x.scratch(0, 3), Due.BEYOND);
        due.is("8: wrong", x.scratch(0, -1), Due.BEYOND);
        due.is("8: wrong", x.scratch(4, 0), Due.BEYOND);
        due.is("8: wrong", x.scratch(-1, 0), Due.BEYOND);
        rowsComeAhead();
        for (int left = 2; left >= 0; left--) due.is("8: to the last", x.scratch(0, left), left);
        due.is("8: none left", x.scratch(0, 0), Due.BEYOND);
        due.is("8: count(6)", x.count(6), 1);
    }

    private static void rowsComeAhead() {
        InkHours x = new InkHours();
        for (int i = 0; i < 12; i++) {
            x.write(0, i % 7, i % 4, i % 8);
            x.hours(1);
        }
        due.is("8: the third of twelve", x.scratch(0, 2), 11);
        for (int i = 0; i < 11; i++) {
            int was = i < 2 ? i : i + 1;
            due.is("8: kind of " + i, x.markOf(0, i, 0), was % 7);
            due.is("8: letter of " + i, x.markOf(0, i, 1), was % 4);
            due.is("8: ink of " + i, x.markOf(0, i, 2), was % 8);
            due.is("8: at of " + i, x.markOf(0, i, 3), was);
        }
    }

    private static void copied() {
        InkHours x = new InkHours();
        x.write(0, 4, 1, 3);
        x.hours(40);
        due.is("9: copied", x.copied(0, 0, 5), 3);
        due.is("9: ink", x.markOf(0, 0, 2), 5);
        due.is("9: at", x.markOf(0, 0, 3), 40);
        due.is("9: kind stays", x.markOf(0, 0, 0), 4);
        due.is("9: letter stays", x.markOf(0, 0, 1), 1);
        x.hours(60);
        due.is("9: one that is gone", x.seen(0, 100), 0);
        due.is("9: is seen again", x.copied(0, 0, 5), 5);
        due.is("9: now", x.seen(0, 100), 1);
        int[][] wrong = {{-1, 0, 0}, {4, 0, 0}, {0, -1, 0}, {0, 1, 0}, {0, 0, -1}, {0, 0, 8}};
        for (int[] w : wrong) due.is("9: wrong", x.copied(w[0], w[1], w[2]), Due.BEYOND);
    }
}
