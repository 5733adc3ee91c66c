/** Promises 40 to 44: image, undo, tear, count, status. */
final class EdgesOfImages {
    private EdgesOfImages() { }

    static void ask(Edges e) {
        image(e);
        undo(e);
        tear(e);
        count(e);
        status(e);
        statusOfAll(e);
    }

    private static void image(Edges e) {
        e.promise(40, "All but THE TAPE and SHEETS is kept: 1.");
        InkHours x = new InkHours();
        e.is("of a new object", x.image(), 1);
        e.is("again", x.image(), 1);
        x = Scenes.rich();
        x.wipe();
        x.feed('x', 1);
        x.image();
        x.feed('y', 2);
        x.sheet(3, 8, 5);
        x.put(0, 0, 13);
        x.undo();
        e.is("THE TAPE isn't", x.count(4), 3);
        e.is("SHEETS aren't: 3 isn't MISSING", x.put(3, 4, 0), 1);
        e.is("SHEETS aren't: a number", x.load(0, 2, 0), 4);
        e.is("SHEETS aren't: a number", x.markOf(2, 0, 1), 3);
        InkHours with = Scenes.rich(), without = Scenes.rich();
        with.image();
        with.hours(7);
        with.ink(0, 0, 3);
        with.ink(0, 1, 3);
        with.light(0, true);
        with.light(1, false);
        with.write(0, 2, 1, 1);
        with.write(2, 2, 1, 1);
        with.turn(0, 0, 5);
        with.copied(0, 1, 5);
        with.scratch(3, 0);
        with.scratch(1, 1);
        with.hold(0, 0, -1);
        with.hold(7, 0, 1);
        with.hold(9, 3, 0);
        with.clerk(0, 5, 6);
        with.undo();
        without.image();
        e.unchanged("undo() brings all back: it", with, without);
    }

    private static void undo(Edges e) {
        e.promise(41, "It becomes what was kept latest (which stays): NOW.");
        InkHours x = new InkHours();
        x.image();
        x.hours(1);
        e.is("0", x.undo(), 0);
        e.is("NOW", x.count(0), 0);
        x.hours(1000);
        x.image();
        x.hours(1000);
        x.write(0, 1, 0, 0);
        e.is("the latest", x.undo(), 1000);
        e.is("no MARK", x.count(1), 0);
        x.write(0, 1, 0, 0);
        e.is("it stays", x.undo(), 1000);
        e.is("what came to it doesn't", x.count(1), 0);
        x = Scenes.at(9999);
        x.image();
        e.is("NOW is 9999", x.undo(), 9999);
        e.promise(41, "NONE: nothing is kept.");
        e.refuses("a new object", InkHours::new, Due.NONE, InkHours::undo);
        e.refuses("it was torn", EdgesOfImages::torn, Due.NONE, InkHours::undo);
    }

    private static InkHours torn() {
        InkHours x = Scenes.rich();
        x.image();
        x.tear();
        return x;
    }

    private static void tear(Edges e) {
        e.promise(42, "Nothing is kept: 1 if something was, else 0.");
        e.is("nothing was", new InkHours().tear(), 0);
        InkHours x = Scenes.rich();
        e.is("something was", x.tear(), 1);
        e.is("nothing is", x.tear(), 0);
        e.is("nothing is", x.undo(), Due.NONE);
        e.is("all is as it was", x.count(0), 20);
        x.image();
        x.image();
        e.is("of two images one is kept", x.tear(), 1);
        e.is("and no more", x.tear(), 0);
        x.image();
        x.undo();
        e.is("undo() leaves it", x.tear(), 1);
    }

    private static void count(Edges e) {
        e.promise(43, "0 NOW, 1 MARKS on all PAPERS, 2 those of these that are SEEN NOW, 3 PAPERS with a MEANING NOW, 4 bytes of THE TAPE, 5 z, 6 SPOTS that hold something.");
        int[] first = {0, 0, 0, 0, 0, 1, 0};
        int[] rich = {20, 20, 20, 3, 28, 77, 3};
        int[] later = {34, 20, 8, 2, 28, 77, 3};
        InkHours x = Scenes.rich();
        for (int what = 0; what <= 6; what++) {
            e.is("count(" + what + ") at first", new InkHours().count(what), first[what]);
            e.is("count(" + what + ")", x.count(what), rich[what]);
        }
        x.hours(14);
        for (int what = 0; what <= 6; what++) e.is("count(" + what + ") when PAPER 3 is GONE", x.count(what), later[what]);
        x = Scenes.at(9999);
        for (int p = 0; p < 4; p++) for (int m = 0; m < 12; m++) x.write(p, p == 3 || m > 0 ? 2 - m / 11 : 2, 0, 0);
        for (int s = 0; s < 10; s++) x.hold(s, 3, 11);
        for (int i = 0; i < 30; i++) x.feed(-1, 4);
        x.seed(-1);
        int[] most = {9999, 48, 48, 4, 120, -1, 10};
        for (int what = 0; what <= 6; what++) e.is("count(" + what + ") at most", x.count(what), most[what]);
        for (int what = 0; what <= 6; what++) {
            int asked = what;
            e.asks("count(" + what + ")", y -> y.count(asked));
        }
        e.promise(43, "BEYOND: another what.");
        e.range("what", Scenes::rich, 0, 6, InkHours::count);
    }

    private static void status(Edges e) {
        e.promise(44, "How many acts answered a finding ever (undo() takes none back):");
        InkHours x = new InkHours();
        x.image();
        e.is("none", x.status(-1), 0);
        x.hours(0);
        e.is("one", x.status(-1), 1);
        x.undo();
        e.is("undo() takes none back", x.status(-1), 1);
        e.is("undo() takes none back", x.status(0), 1);
        x.tear();
        x.undo();
        e.is("the NONE of undo()", x.status(3), 1);
        e.is("in all", x.status(-1), 2);
        e.promise(44, "which -1: all, 0 to 6: BEYOND to SIZE.");
        x = Scenes.rich();
        x.light(4, true);
        for (int i = 0; i < 2; i++) x.write(3, 1, 1, 1);
        for (int i = 0; i < 3; i++) x.as(0, 2);
        for (int i = 0; i < 4; i++) x.says(2, 0, 0);
        for (int i = 0; i < 5; i++) x.age(0, 0, 9);
        for (int i = 0; i < 6; i++) x.put(3, 0, 0);
        for (int i = 0; i < 7; i++) x.sheet(0, 8, -1);
        for (int which = 0; which <= 6; which++) e.is("status(" + which + ")", x.status(which), 1 + which);
        e.is("status(-1)", x.status(-1), 28);
        for (int which = -1; which <= 6; which++) {
            int asked = which;
            e.asks("status(" + which + ")", y -> y.status(asked));
        }
        e.promise(44, "BEYOND (counted from then on): another one.");
        e.range("which", Scenes::rich, -1, 6, InkHours::status);
        e.is("7", x.status(7), Due.BEYOND);
        e.is("it is counted", x.status(0), 2);
        e.is("-2", x.status(-2), Due.BEYOND);
        e.is("it is counted", x.status(0), 3);
        e.is("in all", x.status(-1), 30);
    }

    /** Up to the last of 512 calls all are counted. */
    private static void statusOfAll(Edges e) {
        e.promise(44, "How many acts answered a finding ever");
        InkHours x = new InkHours();
        for (int i = 0; i < 511; i++) x.light(4, true);
        e.is("the 512th call", x.status(0), 511);
    }
}
