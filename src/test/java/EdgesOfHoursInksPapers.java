/** Promises 1 to 9: a new object, hours, ink, light, write, markOf, turn, scratch, copied. */
final class EdgesOfHoursInksPapers {
    private EdgesOfHoursInksPapers() { }

    static void ask(Edges e) {
        newObject(e);
        hours(e);
        ink(e);
        light(e);
        write(e);
        markOf(e);
        turn(e);
        scratch(e);
        spotsOfScratch(e);
        copied(e);
    }

    private static void newObject(Edges e) {
        e.promise(1, "All as at first;");
        InkHours x = new InkHours();
        e.is("NOW", x.count(0), 0);
        e.is("z", x.count(5), 1);
        e.is("SPOTS that hold something", x.count(6), 0);
        for (int s = 0; s < 10; s++) e.is("SPOT " + s, x.as(s, 0), Due.MISSING);
        for (int s = 0; s < 4; s++) e.is("SHEET " + s, x.put(s, 0, 0), Due.MISSING);
        for (int i = 0; i < 8; i++) {
            e.is("LASTS of " + i, x.ink(i, 0, 1), 24);
            e.is("PRICE of " + i, x.ink(i, 1, 2), 1);
        }
        for (int p = 0; p < 4; p++) e.is("LIGHT of " + p, x.light(p, true), 0);
        for (int which = -1; which <= 6; which++) e.is("status(" + which + ")", new InkHours().status(which), 0);
        Scenes.rich();
        e.is("another object has changed nothing in a new one", new InkHours().count(1), 0);
        e.promise(1, "no MARKS;");
        x = new InkHours();
        e.is("MARKS", x.count(1), 0);
        for (int p = 0; p < 4; p++) e.is("the first of " + p, x.markOf(p, 0, 0), Due.BEYOND);
        e.promise(1, "THE TAPE is empty,");
        e.is("bytes", new InkHours().count(4), 0);
        e.is("a text of none", new InkHours().text(), -1);
        e.promise(1, "no image is kept.");
        e.is("tear", new InkHours().tear(), 0);
        e.is("undo", new InkHours().undo(), Due.NONE);
    }

    private static void hours(Edges e) {
        e.promise(2, "n HOURS go (1 to 1000): NOW.");
        e.is("one", new InkHours().hours(1), 1);
        e.is("1000", new InkHours().hours(1000), 1000);
        InkHours x = Scenes.at(5);
        e.is("from 5 on", x.hours(3), 8);
        e.is("NOW", x.count(0), 8);
        x = new InkHours();
        for (int i = 1; i <= 511; i++) x.hours(1);
        e.is("the 512th call", x.hours(1), 512);
        e.promise(2, "BEYOND.");
        e.range("n", Scenes::rich, 1, 1000, InkHours::hours);
        e.promise(2, "STATE: it would be above 9999.");
        e.is("9999", Scenes.at(8999).hours(1000), 9999);
        e.is("9999", Scenes.at(9998).hours(1), 9999);
        e.refuses("10000", () -> Scenes.at(9000), Due.STATE, y -> y.hours(1000));
        e.refuses("10000", () -> Scenes.at(9999), Due.STATE, y -> y.hours(1));
        e.refuses("10999", () -> Scenes.at(9999), Due.STATE, y -> y.hours(1000));
        e.is("what was refused has no hours gone", Scenes.at(9999).count(0), 9999);
    }

    private static void ink(Edges e) {
        e.promise(3, "LASTS (what 0), PRICE (1) of an INK becomes v: what it was.");
        InkHours x = new InkHours();
        int[][] calls = {{7, 0, 999, 24}, {7, 0, 1, 999}, {7, 0, 24, 1}, {7, 1, 99, 1}, {7, 1, 0, 99}, {7, 1, 1, 0}, {0, 0, 2, 24}, {0, 1, 2, 1}};
        for (int[] c : calls) e.is("ink(" + c[0] + ", " + c[1] + ", " + c[2] + ")", x.ink(c[0], c[1], c[2]), c[3]);
        e.is("what was SEEN isn't, when it LASTS less", Scenes.of("on 0 a").ink(0, 0, 1), 24);
        e.promise(3, "BEYOND.");
        e.range("INK", Scenes::rich, 0, 7, (y, v) -> y.ink(v, 0, 5));
        e.range("what", Scenes::rich, 0, 1, (y, v) -> y.ink(0, v, 5));
        e.range("LASTS", Scenes::rich, 1, 999, (y, v) -> y.ink(2, 0, v));
        e.range("PRICE", Scenes::rich, 0, 99, (y, v) -> y.ink(2, 1, v));
    }

    private static void light(Edges e) {
        e.promise(4, "A PAPER is in LIGHT, or not: 1 if it was, else 0.");
        InkHours x = new InkHours();
        for (int p = 0; p < 4; p++) {
            e.is("into LIGHT", x.light(p, true), 0);
            e.is("in LIGHT", x.light(p, true), 1);
            e.is("out of it", x.light(p, false), 1);
            e.is("not in it", x.light(p, false), 0);
        }
        e.promise(4, "BEYOND.");
        e.range("PAPER, true", Scenes::rich, 0, 3, (y, v) -> y.light(v, true));
        e.range("PAPER, false", Scenes::rich, 0, 3, (y, v) -> y.light(v, false));
    }

    private static void write(Edges e) {
        e.promise(5, "A new MARK on a PAPER, behind all others, written NOW: its number.");
        InkHours x = Scenes.rich();
        e.is("the first", x.write(2, 6, 3, 7), 0);
        e.is("KIND", x.markOf(2, 0, 0), 6);
        e.is("LETTER", x.markOf(2, 0, 1), 3);
        e.is("INK", x.markOf(2, 0, 2), 7);
        e.is("AT", x.markOf(2, 0, 3), 20);
        e.is("behind six", x.write(0, 2, 0, 0), 6);
        e.is("those are as they were", x.markOf(0, 5, 3), 10);
        e.promise(5, "BEYOND.");
        e.range("PAPER", () -> Scenes.of("on 1 a"), 0, 3, (y, v) -> y.write(v, 1, 0, 0));
        e.range("KIND", Scenes::rich, 0, 6, (y, v) -> y.write(0, v, 0, 0));
        e.range("LETTER", Scenes::rich, 0, 3, (y, v) -> y.write(0, 1, v, 0));
        e.range("LETTER of a NO", Scenes::rich, 0, 3, (y, v) -> y.write(0, 2, v, 0));
        e.range("INK", Scenes::rich, 0, 7, (y, v) -> y.write(0, 1, 0, v));
        e.promise(5, "FULL.");
        InkHours eleven = Scenes.of("on 0 a a a a a a a a a a a");
        e.is("the 12th", eleven.write(0, 1, 0, 0), 11);
        e.refuses("the 13th", Scenes::rich, Due.FULL, y -> y.write(3, 1, 0, 0));
        eleven.scratch(0, 0);
        e.is("there is room again", eleven.write(0, 1, 0, 0), 11);
    }

    private static void markOf(Edges e) {
        e.promise(6, "Of a MARK: what 0 KIND, 1 LETTER, 2 INK, 3 AT, 4 STAYS.");
        InkHours x = Scenes.rich();
        int[] bold = {4, 0, 1, 20, 120};
        int[] last = {1, 3, 0, 10, 24};
        for (int what = 0; what <= 4; what++) {
            e.is("what " + what + " of the BOLD one", x.markOf(1, 1, what), bold[what]);
            e.is("what " + what + " of the 12th", x.markOf(3, 11, what), last[what]);
        }
        e.asks("markOf", y -> y.markOf(0, 0, 4));
        e.promise(6, "BEYOND.");
        e.range("PAPER", Scenes::rich, 0, 3, (y, v) -> y.markOf(v == 2 ? 0 : v, 0, 0));
        e.range("MARK of six", Scenes::rich, 0, 5, (y, v) -> y.markOf(0, v, 0));
        e.range("MARK of twelve", Scenes::rich, 0, 11, (y, v) -> y.markOf(3, v, 3));
        e.refuses("an empty PAPER has none", Scenes::rich, Due.BEYOND, y -> y.markOf(2, 0, 0));
        e.range("what", Scenes::rich, 0, 4, (y, v) -> y.markOf(0, 0, v));
    }

    private static void turn(Edges e) {
        e.promise(7, "A MARK becomes one of another KIND: what it was.");
        InkHours x = Scenes.rich();
        e.is("from BOLD to MARK", x.turn(1, 1, 0), 4);
        e.is("from MARK to FAINT", x.turn(1, 1, 6), 0);
        e.is("from FAINT to WORD", x.turn(1, 1, 1), 6);
        e.is("KIND", x.markOf(1, 1, 0), 1);
        e.is("the LETTER is left", x.markOf(3, 11, 1), 3);
        e.is("a letter becomes a NO", x.turn(3, 11, 2), 1);
        e.is("the LETTER of a NO is left", x.markOf(3, 11, 1), 3);
        e.is("INK is left", x.markOf(1, 1, 2), 1);
        e.is("AT is left", x.markOf(1, 1, 3), 20);
        e.is("no finding", x.status(-1), 0);
        e.promise(7, "BEYOND.");
        e.range("PAPER", Scenes::rich, 0, 3, (y, v) -> y.turn(v, 0, 5));
        e.range("MARK", Scenes::rich, 0, 5, (y, v) -> y.turn(0, v, 5));
        e.refuses("an empty PAPER has none", Scenes::rich, Due.BEYOND, y -> y.turn(2, 0, 0));
        e.range("KIND", Scenes::rich, 0, 6, (y, v) -> y.turn(0, 3, v));
    }

    private static void scratch(Edges e) {
        e.promise(8, "A MARK is scratched out;");
        InkHours x = Scenes.rich();
        e.is("the last of twelve", x.scratch(3, 11), 11);
        e.is("it is no more", x.markOf(3, 11, 0), Due.BEYOND);
        e.is("MARKS on all PAPERS", x.count(1), 19);
        e.promise(8, "those behind it come one ahead;");
        x = Scenes.rich();
        e.is("the first of six", x.scratch(0, 0), 5);
        int[][] left = {{3, 0}, {1, 1}, {5, 0}, {2, 0}, {1, 2}};
        for (int m = 0; m < 5; m++) {
            e.is("KIND of " + m, x.markOf(0, m, 0), left[m][0]);
            e.is("LETTER of " + m, x.markOf(0, m, 1), left[m][1]);
            e.is("INK of " + m, x.markOf(0, m, 2), 2);
            e.is("AT of " + m, x.markOf(0, m, 3), 10);
        }
        x = new InkHours();
        for (int m = 0; m < 12; m++) {
            x.write(2, m % 7, m % 4, m % 8);
            x.hours(1);
        }
        e.is("the third of twelve", x.scratch(2, 2), 11);
        for (int m = 0; m < 11; m++) {
            int was = m < 2 ? m : m + 1;
            int[] rows = {was % 7, was % 4, was % 8, was};
            for (int what = 0; what < 4; what++) e.is("what " + what + " of MARK " + m, x.markOf(2, m, what), rows[what]);
        }
        x = Scenes.rich();
        x.scratch(0, 3);
        e.is("those ahead of it don't", x.markOf(0, 2, 1), 1);
        e.is("the one behind it does", x.markOf(0, 3, 0), 2);
        e.promise(8, "how many are there.");
        x = Scenes.of("on 1 a b");
        e.is("one is left", x.scratch(1, 1), 1);
        e.is("none is left", x.scratch(1, 0), 0);
        e.promise(8, "BEYOND.");
        e.range("PAPER", Scenes::rich, 0, 3, (y, v) -> y.scratch(v, 0));
        e.range("MARK of six", Scenes::rich, 0, 5, (y, v) -> y.scratch(0, v));
        e.range("MARK of twelve", Scenes::rich, 0, 11, (y, v) -> y.scratch(3, v));
        e.refuses("an empty PAPER has none", Scenes::rich, Due.BEYOND, y -> y.scratch(2, 0));
    }

    private static void spotsOfScratch(Edges e) {
        e.promise(8, "SPOTS that held it hold nothing, those that held one behind it hold that still:");
        InkHours x = Scenes.of("on 0 a b c d;on 1 a b c d");
        int[][] held = {{0, 0}, {0, 1}, {0, 2}, {0, 3}, {1, 0}, {1, 1}, {1, 2}, {1, 3}, {0, 1}, {0, 3}};
        for (int s = 0; s < 10; s++) x.hold(s, held[s][0], held[s][1]);
        x.scratch(0, 1);
        int[] as = {0, Due.MISSING, 1, 2, 100, 101, 102, 103, Due.MISSING, 2};
        for (int s = 0; s < 10; s++) e.is("SPOT " + s, x.as(s, 0), as[s]);
        e.is("SPOTS that hold something", x.count(6), 8);
        x.scratch(0, 0);
        int[] then = {Due.MISSING, Due.MISSING, 0, 1, 100, 101, 102, 103, Due.MISSING, 1};
        for (int s = 0; s < 10; s++) e.is("then SPOT " + s, x.as(s, 0), then[s]);
        x.write(0, 1, 0, 0);
        e.is("a new MARK isn't held", x.count(6), 7);
    }

    private static void copied(Edges e) {
        e.promise(9, "A MARK is COPIED in an INK: in which INK it was.");
        InkHours x = Scenes.rich();
        e.is("from 2 to 7", x.copied(0, 5, 7), 2);
        e.is("from 7 to 7", x.copied(0, 5, 7), 7);
        e.is("from 7 to 0", x.copied(0, 5, 0), 7);
        e.is("INK", x.markOf(0, 5, 2), 0);
        e.is("AT", x.markOf(0, 5, 3), 20);
        e.is("another one is as it was", x.markOf(0, 4, 3), 10);
        e.promise(9, "BEYOND.");
        e.range("PAPER", Scenes::rich, 0, 3, (y, v) -> y.copied(v == 2 ? 0 : v, 0, 0));
        e.range("MARK of six", Scenes::rich, 0, 5, (y, v) -> y.copied(0, v, 0));
        e.range("MARK of twelve", Scenes::rich, 0, 11, (y, v) -> y.copied(3, v, 0));
        e.refuses("an empty PAPER has none", Scenes::rich, Due.BEYOND, y -> y.copied(2, 0, 0));
        e.range("INK", Scenes::rich, 0, 7, (y, v) -> y.copied(0, 0, v));
    }
}
