/** Promises 40 to 44: image, undo, tear, count, status. */
public final class ImagesTest {
    private static final Due due = new Due("ImagesTest");

    public static void main(String[] args) {
        imageAndUndo();
        latestImage();
        tear();
        count();
        status();
        due.end();
    }

    private static void imageAndUndo() {
        InkHours x = new InkHours();
        due.is("41: nothing is kept", x.undo(), Due.NONE);
        x.hours(3);
        x.ink(1, 0, 7);
        x.ink(1, 1, 8);
        x.light(2, true);
        Due.read(x, "on 0 a and bold b;on 2 not faint d");
        x.hold(4, 0, 2);
        x.seed(77);
        x.feed('x', 1);
        x.sheet(0, 8, 3);
        due.is("40: image", x.image(), 1);
        x.hours(5);
        x.ink(1, 0, 9);
        x.ink(1, 1, 9);
        x.light(2, false);
        x.light(3, true);
        x.scratch(0, 2);
        x.turn(0, 0, 6);
        x.copied(0, 1, 5);
        x.write(1, 1, 1, 1);
        x.hold(5, 0, 0);
        x.clerk(2, 3, 3);
        x.feed('y', 1);
        x.sheet(0, 16, 2);
        for (int again = 0; again < 2; again++) {
            due.is("41: undo", x.undo(), 3);
            due.is("41: now", x.count(0), 3);
            due.is("41: marks", x.count(1), 5);
            due.is("41: z", x.count(5), 77);
            due.is("41: spots", x.count(6), 1);
            due.is("41: what it holds", x.as(4, 4), 2);
            due.is("41: kind", x.markOf(0, 0, 0), 1);
            due.is("41: ink", x.markOf(0, 1, 2), 0);
            due.is("41: at", x.markOf(0, 1, 3), 3);
            due.is("41: letter", x.markOf(0, 2, 1), 1);
            due.is("41: lasts", x.ink(1, 0, 20), 7);
            due.is("41: price", x.ink(1, 1, 20), 8);
            due.is("41: light", x.light(2, false), 1);
            due.is("41: dark", x.light(3, true), 0);
            due.is("41: the tape stays", x.count(4), 2);
            due.is("41: sheets stay", x.put(0, 2, 0), Due.BEYOND);
            x.scratch(0, 0);
            x.hours(1);
            x.seed(again);
            x.hold(4, 0, -1);
        }
    }

    private static void latestImage() {
        InkHours x = new InkHours();
        x.image();
        x.hours(10);
        due.is("40: another", x.image(), 1);
        x.hours(10);
        due.is("41: the latest", x.undo(), 10);
        due.is("41: which stays", x.undo(), 10);
        due.is("42: all of them", x.tear(), 1);
        due.is("41: none is left", x.undo(), Due.NONE);
        due.is("41: nothing changed", x.count(0), 10);
    }

    private static void tear() {
        InkHours x = new InkHours();
        due.is("42: nothing was", x.tear(), 0);
        x.image();
        due.is("42: something was", x.tear(), 1);
        due.is("42: nothing is", x.tear(), 0);
        due.is("42: undo", x.undo(), Due.NONE);
        x.hours(2);
        x.image();
        due.is("42: a new one", x.undo(), 2);
    }

    private static void count() {
        InkHours x = new InkHours();
        Due.read(x, "ink 1 lasts 2;on 0 a and b;on 1 ink 1 c;on 2 not;on 3 blot d");
        x.hours(1);
        x.feed(0, 4);
        x.seed(-5);
        x.hold(0, 0, 0);
        x.hold(9, 3, 1);
        int[] want = {1, 7, 7, 3, 4, -5, 2};
        for (int what = 0; what < 7; what++) due.is("43: count(" + what + ")", x.count(what), want[what]);
        x.hours(1);
        due.is("43: seen now", x.count(2), 6);
        due.is("43: with a meaning now", x.count(3), 2);
        due.is("43: all marks", x.count(1), 7);
        due.is("43: wrong", x.count(-1), Due.BEYOND);
        due.is("43: wrong", x.count(7), Due.BEYOND);
    }

    private static void status() {
        InkHours x = new InkHours();
        x.image();
        x.hours(0);
        x.hours(1001);
        for (int i = 0; i < 13; i++) x.write(0, 1, 0, 0);
        x.hold(0, 0, 0);
        x.as(0, 2);
        x.as(0, 3);
        x.as(0, 6);
        x.says(1, 0, 0);
        x.clerk(1, 1, 1);
        x.as(1, 0);
        x.sheet(0, 0, -1);
        x.sheet(0, 0, -2);
        x.text();
        x.seed(-1000001);
        x.seed(0);
        int[] want = {2, 1, 3, 1, 1, 1, 2};
        for (int which = 0; which < 7; which++) due.is("44: status(" + which + ")", x.status(which), want[which]);
        due.is("44: all", x.status(-1), 11);
        due.is("44: undo takes none back", x.undo(), 0);
        due.is("44: all", x.status(-1), 11);
        due.is("44: another one", x.status(7), Due.BEYOND);
        due.is("44: is counted", x.status(0), 3);
        due.is("44: another one", x.status(-2), Due.BEYOND);
        due.is("44: is counted", x.status(-1), 13);
    }
}
