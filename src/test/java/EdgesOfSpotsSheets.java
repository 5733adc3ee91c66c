/** Under "Terms", 3: SPOTS, SHEETS; promises 33 to 39: hold, as, sheet, put, copy, load, judge. */
final class EdgesOfSpotsSheets {
    private EdgesOfSpotsSheets() { }

    static void ask(Edges e) {
        spotsAndSheets(e);
        signs(e);
        hold(e);
        as(e);
        sheet(e);
        sheetRefused(e);
        put(e);
        copy(e);
        copyRefused(e);
        load(e);
        loadRefused(e);
        judge(e);
        judgeRefused(e);
    }

    private static void spotsAndSheets(Edges e) {
        e.terms("SPOTS 0 to 9 hold a MARK (a PAPER and a number on it) or nothing (at first).");
        e.range("SPOT", Scenes::rich, 0, 9, (x, v) -> x.hold(v, 0, 1));
        InkHours x = Scenes.rich();
        for (int s = 0; s < 10; s++) {
            e.is("nothing at first", new InkHours().as(s, 0), Due.MISSING);
            x.hold(s, s % 2 * 3, s % 6);
        }
        for (int s = 0; s < 10; s++) e.is("SPOT " + s, x.as(s, 0), s % 2 * 300 + s % 6);
        e.terms("SHEETS 0 to 3: rows of at most 40 numbers");
        e.range("SHEET", Scenes::rich, 0, 3, (y, v) -> y.sheet(v, 8, 1));
        e.is("40 numbers", Scenes.rich().sheet(0, 8, 40), 40);
        e.refuses("41 numbers", Scenes::rich, Due.BEYOND, y -> y.sheet(0, 8, 41));
        e.terms("or MISSING (at first).");
        for (int s = 0; s < 4; s++) {
            int sheet = s;
            e.refuses("SHEET " + s, EdgesOfSpotsSheets::fresh, Due.MISSING, y -> y.put(sheet, 0, 0));
        }
    }

    private static InkHours fresh() { return new InkHours(); }

    /** Whether a number that is put in a SHEET of so many bits is this MEANING, told by some MARKS. */
    private static void number(Edges e, int bits, int v, String marks, boolean is) {
        InkHours x = Scenes.of("on 0 " + marks);
        Scenes.sheet(x, 0, bits, v);
        e.is("of " + bits + " bits " + v + " is " + x.means(0, 0), x.judge(0, 0, 0), is ? 0 : 1);
    }

    private static void signs(Edges e) {
        e.terms("of 8, 16 or 32 bits (told with their sign: of 8 bits 255 is -1),");
        // blot: -1. a, b, c, not d: 128. b, c, not a, not d: 64. all: 32768. not all: 32767. a and not d: 170.
        String none = "blot", bit7 = "a and b and c and not d", bit6 = "b and c and not a and not d", bit15 = "a and b and c and d";
        String below15 = "not a or not b or not c or not d", low = "a and not d", all = "a or not a", never = "a and not a";
        number(e, 8, 255, none, true);
        number(e, 8, 254, none, false);
        number(e, 8, -1, none, true);
        number(e, 8, 64, bit6, true);
        number(e, 8, 128, bit7, false);
        number(e, 16, 255, none, false);
        number(e, 16, 65535, none, true);
        number(e, 16, 65534, none, false);
        number(e, 16, 128, bit7, true);
        number(e, 16, 170, low, true);
        number(e, 16, 32767, below15, true);
        number(e, 16, 32768, bit15, false);
        number(e, 16, 65535, all, false);
        number(e, 32, 65535, none, false);
        number(e, 32, -1, none, true);
        number(e, 32, 32768, bit15, true);
        number(e, 32, 65535, all, true);
        e.promise(36, "(its lowest bits):");
        number(e, 8, 256, never, true);
        number(e, 8, 256 + 64, bit6, true);
        number(e, 8, Integer.MAX_VALUE, none, true);
        number(e, 8, Integer.MIN_VALUE, never, true);
        number(e, 16, 65536, never, true);
        number(e, 16, 65536 + 170, low, true);
        number(e, 16, Integer.MAX_VALUE, none, true);
        number(e, 16, Integer.MIN_VALUE + 32767, below15, true);
        number(e, 32, 65536 + 170, low, false);
        number(e, 32, 65536, never, false);
        number(e, 32, Integer.MIN_VALUE, never, false);
        number(e, 32, Integer.MAX_VALUE, none, false);
    }

    private static void hold(Edges e) {
        e.promise(33, "A SPOT holds a MARK, or nothing (mark -1): 1.");
        InkHours x = Scenes.rich();
        e.is("the first MARK", x.hold(1, 0, 0), 1);
        e.is("it does", x.as(1, 0), 0);
        e.is("the 12th", x.hold(1, 3, 11), 1);
        e.is("it does", x.as(1, 0), 311);
        e.is("nothing", x.hold(1, 3, -1), 1);
        e.is("it does", x.as(1, 0), Due.MISSING);
        e.is("nothing again", x.hold(1, 2, -1), 1);
        e.promise(33, "BEYOND (paper, too).");
        e.range("SPOT", Scenes::rich, 0, 9, (y, v) -> y.hold(v, 0, 0));
        e.range("SPOT, mark -1", Scenes::rich, 0, 9, (y, v) -> y.hold(v, 0, -1));
        e.range("PAPER", Scenes::rich, 0, 3, (y, v) -> y.hold(0, v, 1));
        e.range("PAPER, mark -1", Scenes::rich, 0, 3, (y, v) -> y.hold(0, v, -1));
        e.range("MARK of six", Scenes::rich, -1, 5, (y, v) -> y.hold(0, 0, v));
        e.range("MARK of twelve", Scenes::rich, -1, 11, (y, v) -> y.hold(0, 3, v));
        e.range("MARK of an empty PAPER", Scenes::rich, -1, -1, (y, v) -> y.hold(0, 2, v));
    }

    private static void as(Edges e) {
        e.promise(34, "What a SPOT holds as one of a kind (0 to 6): 100 times the PAPER, and the MARK.");
        InkHours x = Scenes.rich();
        x.hold(8, 1, 1);
        e.is("PAPER 0", x.as(0, 1), 2);
        e.is("PAPER 3", x.as(3, 1), 311);
        e.is("a NO", x.as(9, 2), 100);
        int[] bold = {101, 101, Due.KIND, Due.KIND, 101, Due.KIND, Due.KIND};
        for (int kind = 0; kind < 7; kind++) e.is("a BOLD one as " + kind, x.as(8, kind), bold[kind]);
        e.asks("as", y -> y.as(3, 0));
        e.promise(34, "BEYOND.");
        e.range("SPOT", Scenes::rich, 0, 9, (y, v) -> y.as(v, 0));
        e.range("kind", Scenes::rich, 0, 6, (y, v) -> y.as(0, v));
        e.promise(34, "MISSING: it holds nothing.");
        e.refuses("at first", Scenes::rich, Due.MISSING, y -> y.as(1, 0));
        Edges.Made scratched = () -> {
            InkHours y = Scenes.rich();
            y.scratch(0, 2);
            return y;
        };
        e.refuses("its MARK was scratched out", scratched, Due.MISSING, y -> y.as(0, 1));
        e.refuses("SPOT 5 held one when the image was made", Scenes::rich, Due.MISSING, y -> y.as(4, 6));
        e.promise(34, "KIND: it isn't of that kind, nor of one under it.");
        for (int kind : new int[] {2, 3, 4, 5, 6}) e.refuses("a WORD as " + kind, Scenes::rich, Due.KIND, y -> y.as(0, kind));
        for (int kind : new int[] {1, 3, 4, 5, 6}) e.refuses("a NO as " + kind, Scenes::rich, Due.KIND, y -> y.as(9, kind));
        Edges.Made turned = () -> {
            InkHours y = Scenes.rich();
            y.turn(0, 2, 5);
            return y;
        };
        e.is("an OR as a JOIN", turned.make().as(0, 3), 2);
        e.refuses("a WORD that became an OR", turned, Due.KIND, y -> y.as(0, 1));
        x.turn(0, 2, 3);
        e.is("a JOIN as an OR", x.as(0, 5), Due.KIND);
    }

    private static void sheet(Edges e) {
        e.promise(35, "A sheet has n numbers, all 0, of 8, 16 or 32 bits;");
        for (int bits : new int[] {8, 16, 32}) {
            InkHours x = new InkHours();
            e.is("40 of " + bits, x.sheet(3, bits, 40), 40);
            e.is("the first", x.put(3, 0, -1), 1);
            e.is("the last", x.put(3, 39, -1), 1);
            e.is("none behind it", x.put(3, 40, -1), Due.BEYOND);
            e.is("anew", x.sheet(3, bits, 40), 40);
            Scenes.read(x, "on 0 a and not a");
            x.ink(0, 0, 40);
            e.is("all are 0", x.judge(3, 0, 0), 0);
            e.is("one", x.sheet(3, bits, 1), 1);
            e.is("none behind it", x.put(3, 1, 0), Due.BEYOND);
            e.is("none", x.sheet(3, bits, 0), 0);
            e.is("it isn't MISSING", x.put(3, 0, 0), Due.BEYOND);
        }
        e.promise(35, "bits 0: it is MISSING:");
        InkHours x = Scenes.rich();
        x.sheet(0, 0, 4);
        e.is("it is", x.put(0, 0, 0), Due.MISSING);
        e.is("another one isn't", x.put(1, 0, 0), 1);
        e.promise(35, "n (0 if it is MISSING).");
        e.is("n 0", x.sheet(0, 8, 0), 0);
        e.is("n 40", x.sheet(0, 32, 40), 40);
        e.is("bits 0, n 40", x.sheet(0, 0, 40), 0);
        e.is("bits 0, n 0", x.sheet(0, 0, 0), 0);
        e.is("one that was MISSING", x.sheet(3, 8, 7), 7);
    }

    private static void sheetRefused(Edges e) {
        e.promise(35, "BEYOND: no such sheet, other bits.");
        e.range("sheet", Scenes::rich, 0, 3, (x, v) -> x.sheet(v, 8, 4));
        e.range("sheet, bits 0", Scenes::rich, 0, 3, (x, v) -> x.sheet(v, 0, 4));
        for (int bits : new int[] {-1, 1, 7, 9, 15, 17, 31, 33, 64, -8, 256 + 8, Integer.MIN_VALUE, Integer.MAX_VALUE}) {
            e.refuses("bits " + bits, Scenes::rich, Due.BEYOND, x -> x.sheet(0, bits, 4));
        }
        e.promise(35, "SIZE: n is below 0 (also with bits 0).");
        for (int bits : new int[] {0, 8, 16, 32}) {
            e.refuses("n -1, bits " + bits, Scenes::rich, Due.SIZE, x -> x.sheet(0, bits, -1));
            e.refuses("the least int, bits " + bits, Scenes::rich, Due.SIZE, x -> x.sheet(0, bits, Integer.MIN_VALUE));
        }
        e.promise(35, "BEYOND: n is above 40 (also with bits 0).");
        for (int bits : new int[] {0, 8, 16, 32}) {
            e.refuses("n 41, bits " + bits, Scenes::rich, Due.BEYOND, x -> x.sheet(0, bits, 41));
            e.refuses("the greatest int, bits " + bits, Scenes::rich, Due.BEYOND, x -> x.sheet(0, bits, Integer.MAX_VALUE));
        }
    }

    private static void put(Edges e) {
        e.promise(36, "Number i of a sheet becomes v");
        InkHours x = Scenes.rich();
        e.is("the first of four", x.put(0, 0, 20), 1);
        e.is("the last of four", x.put(0, 3, 63), 1);
        e.is("all are MARKS", x.load(0, 2, 0), 4);
        int[] numbers = {20, 30, 23, 63};
        for (int i = 0; i < 4; i++) e.is("number " + i, 10 * x.markOf(2, i, 0) + x.markOf(2, i, 1), numbers[i]);
        e.promise(36, "1.");
        e.is("v 0", x.put(0, 1, 0), 1);
        e.is("the least int", x.put(2, 1, Integer.MIN_VALUE), 1);
        e.is("the greatest int", x.put(1, 2, Integer.MAX_VALUE), 1);
        e.promise(36, "BEYOND: no such sheet.");
        e.range("sheet", Scenes::rich, 0, 3, (y, v) -> y.put(v, 0, 5));
        e.promise(36, "MISSING.");
        e.refuses("sheet 3", Scenes::rich, Due.MISSING, y -> y.put(3, 0, 5));
        Edges.Made missing = () -> {
            InkHours y = Scenes.rich();
            y.sheet(0, 0, 4);
            return y;
        };
        e.refuses("one that became so", missing, Due.MISSING, y -> y.put(0, 0, 5));
        e.promise(36, "BEYOND: no such number.");
        e.range("number of four", Scenes::rich, 0, 3, (y, v) -> y.put(0, v, 5));
        e.range("number of three", Scenes::rich, 0, 2, (y, v) -> y.put(1, v, 5));
        Edges.Made empty = () -> {
            InkHours y = Scenes.rich();
            y.sheet(0, 8, 0);
            return y;
        };
        e.refuses("of none", empty, Due.BEYOND, y -> y.put(0, 0, 5));
        Edges.Made shorter = () -> {
            InkHours y = Scenes.rich();
            y.sheet(0, 8, 2);
            return y;
        };
        e.range("number of two that were four", shorter, 0, 1, (y, v) -> y.put(0, v, 5));
    }

    /** Sheets 0 (4 numbers: 10, 11, 12, 13) and 1 (6 numbers: 20 to 23, 30, 31), both of 16 bits. */
    private static InkHours twoSheets() {
        InkHours x = Scenes.rich();
        Scenes.sheet(x, 0, 16, 10, 11, 12, 13);
        Scenes.sheet(x, 1, 16, 20, 21, 22, 23, 30, 31);
        return x;
    }

    private static void numbers(Edges e, String what, InkHours x, int s, int... want) {
        e.is(what + ": how many are MARKS", x.load(s, 2, 0), want.length);
        for (int i = 0; i < want.length; i++) e.is(what + ": number " + i, 10 * x.markOf(2, i, 0) + x.markOf(2, i, 1), want[i]);
        while (x.scratch(2, 0) >= 0) continue;
    }

    private static void copy(Edges e) {
        e.promise(37, "n numbers of a sheet from one on come to another one from one on (as they all were): n.");
        InkHours x = twoSheets();
        e.is("all four to the end", x.copy(0, 0, 1, 2, 4), 4);
        numbers(e, "of the other one", x, 1, 20, 21, 10, 11, 12, 13);
        numbers(e, "of the one", x, 0, 10, 11, 12, 13);
        e.is("the last to the first", x.copy(0, 3, 1, 0, 1), 1);
        numbers(e, "of the other one", x, 1, 13, 21, 10, 11, 12, 13);
        e.is("none, from the end to the end", x.copy(0, 4, 1, 6, 0), 0);
        e.is("none, from the begin to the begin", x.copy(0, 0, 1, 0, 0), 0);
        numbers(e, "as it was", x, 1, 13, 21, 10, 11, 12, 13);
        x = twoSheets();
        e.is("in itself, on", x.copy(1, 0, 1, 1, 5), 5);
        numbers(e, "on", x, 1, 20, 20, 21, 22, 23, 30);
        x = twoSheets();
        e.is("in itself, back", x.copy(1, 1, 1, 0, 5), 5);
        numbers(e, "back", x, 1, 21, 22, 23, 30, 31, 31);
        x = twoSheets();
        e.is("in itself, where it is", x.copy(1, 0, 1, 0, 6), 6);
        numbers(e, "where it is", x, 1, 20, 21, 22, 23, 30, 31);
    }

    private static void copyRefused(Edges e) {
        e.promise(37, "BEYOND: no such sheet (either).");
        e.range("the one", EdgesOfSpotsSheets::twoSheets, 0, 3, (x, v) -> x.copy(v, 0, 1, 0, 1));
        e.range("the other", EdgesOfSpotsSheets::twoSheets, 0, 3, (x, v) -> x.copy(0, 0, v, 0, 1));
        e.promise(37, "MISSING: one is.");
        e.refuses("the one", EdgesOfSpotsSheets::twoSheets, Due.MISSING, x -> x.copy(3, 0, 1, 0, 0));
        e.refuses("the other", EdgesOfSpotsSheets::twoSheets, Due.MISSING, x -> x.copy(0, 0, 3, 0, 0));
        e.refuses("both", EdgesOfSpotsSheets::twoSheets, Due.MISSING, x -> x.copy(3, 0, 3, 0, 0));
        e.promise(37, "KIND: they are not of as many bits.");
        e.refuses("16 and 32", EdgesOfSpotsSheets::twoSheets, Due.KIND, x -> x.copy(0, 0, 2, 0, 1));
        e.refuses("32 and 16", EdgesOfSpotsSheets::twoSheets, Due.KIND, x -> x.copy(2, 0, 0, 0, 0));
        e.refuses("8 and 16", Scenes::rich, Due.KIND, x -> x.copy(0, 0, 1, 0, 1));
        e.refuses("8 and 32", Scenes::rich, Due.KIND, x -> x.copy(0, 0, 2, 0, 1));
        e.promise(37, "BEYOND: one has not so many, or from, to or n is below 0.");
        e.range("from, n 1", EdgesOfSpotsSheets::twoSheets, 0, 3, (x, v) -> x.copy(0, v, 1, 0, 1));
        e.range("from, n 0", EdgesOfSpotsSheets::twoSheets, 0, 4, (x, v) -> x.copy(0, v, 1, 0, 0));
        e.range("from, n 3", EdgesOfSpotsSheets::twoSheets, 0, 1, (x, v) -> x.copy(0, v, 1, 0, 3));
        e.range("to, n 1", EdgesOfSpotsSheets::twoSheets, 0, 5, (x, v) -> x.copy(0, 0, 1, v, 1));
        e.range("to, n 0", EdgesOfSpotsSheets::twoSheets, 0, 6, (x, v) -> x.copy(0, 0, 1, v, 0));
        e.range("to, n 4", EdgesOfSpotsSheets::twoSheets, 0, 2, (x, v) -> x.copy(0, 0, 1, v, 4));
        e.range("n of four", EdgesOfSpotsSheets::twoSheets, 0, 4, (x, v) -> x.copy(0, 0, 1, 0, v));
        e.range("n of six to four", EdgesOfSpotsSheets::twoSheets, 0, 4, (x, v) -> x.copy(1, 0, 0, 0, v));
        e.range("n from 3 on", EdgesOfSpotsSheets::twoSheets, 0, 1, (x, v) -> x.copy(0, 3, 1, 0, v));
        e.range("n to 4 on", EdgesOfSpotsSheets::twoSheets, 0, 2, (x, v) -> x.copy(0, 0, 1, 4, v));
        int most = Integer.MAX_VALUE;
        e.refuses("from and n go beyond an int", EdgesOfSpotsSheets::twoSheets, Due.BEYOND, x -> x.copy(0, most, 1, 0, most));
        e.refuses("to and n go beyond an int", EdgesOfSpotsSheets::twoSheets, Due.BEYOND, x -> x.copy(0, 0, 1, most, most));
        e.refuses("from is below 0, n less than none", EdgesOfSpotsSheets::twoSheets, Due.BEYOND, x -> x.copy(0, -1, 1, 0, -1));
    }

    private static InkHours loading(int... numbers) {
        InkHours x = Scenes.rich();
        Scenes.sheet(x, 0, 32, numbers);
        return x;
    }

    private static void load(Edges e) {
        e.promise(38, "Numbers of a sheet, from its begin on, are MARKS written NOW on a PAPER in an INK, each 10 times the KIND, and the LETTER: how many came.");
        InkHours x = loading(0, 3, 10, 23, 32, 41, 50, 63);
        e.is("eight", x.load(0, 2, 7), 8);
        int[] marks = {0, 3, 10, 23, 32, 41, 50, 63};
        for (int m = 0; m < 8; m++) {
            e.is("KIND of " + m, x.markOf(2, m, 0), marks[m] / 10);
            e.is("LETTER of " + m, x.markOf(2, m, 1), marks[m] % 10);
            e.is("INK of " + m, x.markOf(2, m, 2), 7);
            e.is("AT of " + m, x.markOf(2, m, 3), 20);
        }
        e.is("behind those that there are", loading(11).load(0, 0, 0), 1);
        e.is("of an empty sheet: none", loading().load(0, 2, 0), 0);
        e.promise(38, "It ends at the first that is none,");
        for (int none : new int[] {4, 9, 14, 34, 64, 69, 70, 99, 100, -1, -10, Integer.MIN_VALUE, Integer.MAX_VALUE}) {
            e.is("none: " + none, loading(none, 10).load(0, 2, 0), 0);
            x = loading(10, none, 11);
            e.is("one ahead of " + none, x.load(0, 2, 0), 1);
            e.is("one is there", x.markOf(2, 1, 0), Due.BEYOND);
        }
        e.promise(38, "or for which there is no room.");
        x = new InkHours();
        x.sheet(0, 8, 40);
        e.is("12 of 40", x.load(0, 0, 0), 12);
        e.is("no more", x.load(0, 0, 0), 0);
        e.is("six behind six", loading(10, 10, 10, 10, 10, 10).load(0, 0, 0), 6);
        e.is("six of seven behind six", loading(10, 10, 10, 10, 10, 10, 10).load(0, 0, 0), 6);
        x = loading(10);
        e.is("none behind twelve", x.load(0, 3, 0), 0);
        e.is("that is no finding", x.status(-1), 0);
    }

    private static void loadRefused(Edges e) {
        e.promise(38, "BEYOND: no such sheet.");
        e.range("sheet", Scenes::rich, 0, 3, (x, v) -> x.load(v, 2, 0));
        e.promise(38, "MISSING.");
        e.refuses("sheet 3", Scenes::rich, Due.MISSING, x -> x.load(3, 2, 0));
        e.promise(38, "BEYOND: paper, ink.");
        e.range("PAPER", Scenes::rich, 0, 3, (x, v) -> x.load(0, v, 0));
        e.range("INK", Scenes::rich, 0, 7, (x, v) -> x.load(0, 2, v));
        e.refuses("PAPER, of an empty sheet", EdgesOfSpotsSheets::loading, Due.BEYOND, x -> x.load(0, 4, 0));
        e.refuses("INK, of an empty sheet", EdgesOfSpotsSheets::loading, Due.BEYOND, x -> x.load(0, 2, 8));
    }

    /** a at HOURS 0 to 2, none from 3 on; the sheet has the numbers. */
    private static InkHours judged(int... numbers) {
        InkHours x = Scenes.of("ink 0 lasts 3;on 0 a");
        Scenes.sheet(x, 0, 32, numbers);
        return x;
    }

    private static void judge(Edges e) {
        int a = Due.A;
        e.promise(39, "THE READER: numbers of a sheet are MEANINGS of a PAPER at HOURS from one on: 0 if all are;");
        e.is("all four", judged(a, a, a, -1).judge(0, 0, 0), 0);
        e.is("from 1 on", judged(a, a, -1, -1).judge(0, 0, 1), 0);
        e.is("of none", judged().judge(0, 0, 0), 0);
        e.is("of none at 9999", judged().judge(0, 0, 9999), 0);
        e.is("ahead of NOW, too", Scenes.rich().judge(2, 0, 0), 1);
        InkHours x = new InkHours();
        x.sheet(0, 8, 40);
        for (int i = 0; i < 40; i++) x.put(0, i, -1);
        e.is("forty", x.judge(0, 0, 9960), 0);
        e.asks("judge", y -> y.judge(0, 0, 20));
        e.promise(39, "else 1 and the place of the first that isn't,");
        e.is("the first", judged(0, a, a, -1).judge(0, 0, 0), 1);
        e.is("the second, and others", judged(a, -1, 0, 0).judge(0, 0, 0), 2);
        e.is("the last", judged(a, a, a, a).judge(0, 0, 0), 4);
        x.put(0, 39, 0);
        e.is("the 40th", x.judge(0, 0, 0), 40);
        e.promise(39, "or for which there is no HOUR.");
        e.is("9999 is one", judged(-1).judge(0, 0, 9999), 0);
        e.is("10000 is none", judged(-1, -1).judge(0, 0, 9999), 2);
        e.is("up to 9999", judged(-1, -1, -1, -1).judge(0, 0, 9996), 0);
        e.is("up to 10000", judged(-1, -1, -1, -1).judge(0, 0, 9997), 4);
    }

    private static void judgeRefused(Edges e) {
        e.promise(39, "BEYOND: no such sheet.");
        e.range("sheet", Scenes::rich, 0, 3, (x, v) -> x.judge(v, 0, 20));
        e.promise(39, "MISSING.");
        e.refuses("sheet 3", Scenes::rich, Due.MISSING, x -> x.judge(3, 0, 20));
        e.promise(39, "BEYOND: paper, hour.");
        e.range("PAPER", Scenes::rich, 0, 3, (x, v) -> x.judge(0, v, 20));
        e.range("HOUR", Scenes::rich, 0, 9999, (x, v) -> x.judge(0, 0, v));
        e.refuses("PAPER, of an empty sheet", EdgesOfSpotsSheets::judged, Due.BEYOND, x -> x.judge(0, 4, 0));
        e.refuses("HOUR, of an empty sheet", EdgesOfSpotsSheets::judged, Due.BEYOND, x -> x.judge(0, 0, 10000));
    }
}
