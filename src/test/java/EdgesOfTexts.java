/** Under "Terms", 3: TEXT, TOKENS, FAULT; promises 30 to 32: feed, wipe, text. */
final class EdgesOfTexts {
    private EdgesOfTexts() { }

    static void ask(Edges e) {
        tape(e);
        tokens(e);
        blanks(e);
        items(e);
        inkItems(e);
        paperItems(e);
        onItems(e);
        faultWords(e);
        thirteenth(e);
        endsTooEarly(e);
        feed(e);
        wipe(e);
        text(e);
        textWithFault(e);
    }

    private static InkHours fresh() { return new InkHours(); }

    private static int text(String s) {
        InkHours x = new InkHours();
        Scenes.feed(x, s);
        return x.text();
    }

    private static void faults(Edges e, String... marked) {
        for (String s : marked) e.fault(EdgesOfTexts::fresh, s);
    }

    private static String blanks(int n) {
        StringBuilder out = new StringBuilder();
        while (out.length() < n) out.append(' ');
        return out.toString();
    }

    private static InkHours fed(int bytes) {
        InkHours x = new InkHours();
        Scenes.feed(x, blanks(bytes));
        return x;
    }

    private static void tape(Edges e) {
        e.terms("A TEXT is read from THE TAPE (bytes, at most 120).");
        e.is("119 and 1", fed(119).feed(0, 1), 120);
        e.refuses("120 and 1", () -> fed(120), Due.FULL, x -> x.feed(0, 1));
        e.is("a TEXT of 120 bytes, the last one counts", text(blanks(114) + "on 0 b"), 1);
        faults(e, blanks(115) + "on 0 !");
        e.is("a byte is one of 0 to 255", text("on 0 a \u00ff"), -8);
    }

    private static void tokens(Edges e) {
        e.terms("TOKENS, each as long as can be: WORDS (letters a to z), NUMBERS (digits, 9999 at most), SIGN ;");
        e.is("none is parted by a blank", text("ink7lasts999price99;paper3dark;on0ink1a;on1not"), 4);
        faults(e, "!inks 0 lasts 1", "!onon 0 a", "on 0 !ab", "on 0 a !andb", "on 0 !bolda", "on 0 !az", "!zon 0 a", "ink !00008 lasts 1", "ink !12 lasts 1",
            "ink 1 lasts !9999", "ink 1 lasts !10000", "ink !10001 lasts 1", "on !4294967296 a", "on !18446744073709551616 a", "on 00 a;!a", "on 0 a;!;");
        e.is("a NUMBER of many digits that is one", text("on 0 ink 000000000000000000000000000000007 a"), 1);
        e.is("digits 0 and 9", text("ink 0 lasts 90 price 09"), 1);
        // The bytes next to a and z, 0 and 9, ; and the blank.
        faults(e, "!`", "!{", "!/", "!:", "!<", "!\u001f", "!!", "!A", "!Z", "!\u0000", "!\u007f", "!\u0080", "!\u00ff", "!\u00e1", "!\t", "!\n", "!\r");
        faults(e, "on 0 a!`", "on 0 a!{", "on 0!/ a", "on 0!: a", "on 0 a!:", "on 0 a!<", "on!\t0 a", "on 0 a!\n", "on 0 a !A");
    }

    private static void blanks(Edges e) {
        e.terms("; blanks may stand between.");
        e.is("many", text("  on   0   ink   1   bold   a   ;   paper 2   light   "), 2);
        e.is("none", text("on0ink1a;paper2light"), 2);
        e.is("where they part words", text("on 0 bold a and b"), 1);
        faults(e, "on 0 !no t a", "on 0 a !an d b", "!in k 1 lasts 5");
        e.is("where they part digits", text("ink 1 lasts 5 0"), -15);
    }

    private static void items(Edges e) {
        e.terms("TEXT: ITEM { ; ITEM }.");
        e.is("one", text("on 0 a"), 1);
        e.is("two", text("on 0 a;on 1 a"), 2);
        StringBuilder many = new StringBuilder("on0a");
        for (int i = 1; i < 12; i++) many.append(";on").append(i % 4).append("a");
        e.is("twelve", text(many.toString()), 12);
        faults(e, "!;", "!;on 0 a", "on 0 a;!;on 1 a", "on 0 a;!", "on 0 a !on 1 a", "ink 1 lasts 5 !on 0 a", "paper 1 dark !paper 1 light", "on 0 a;!a", "!a", "!5");
    }

    private static void inkItems(Edges e) {
        e.terms("ITEM: ink, a NUMBER (0 to 7), lasts, a NUMBER (1 to 999), perhaps price and a NUMBER (0 to 99);");
        InkHours x = new InkHours();
        Scenes.read(x, "ink 0 lasts 1;ink 7 lasts 999 price 99;ink 3 lasts 999 price 0");
        int[][] rows = {{0, 1, 1}, {7, 999, 99}, {3, 999, 0}, {1, 24, 1}};
        for (int[] r : rows) {
            e.is("LASTS of " + r[0], x.ink(r[0], 0, 24), r[1]);
            e.is("PRICE of " + r[0], x.ink(r[0], 1, 1), r[2]);
        }
        Scenes.read(x, "ink 5 lasts 9 price 8;ink 5 lasts 7");
        e.is("without price it is as it was", x.ink(5, 1, 1), 8);
        faults(e, "ink !8 lasts 5", "ink !lasts 5", "ink !;", "ink 1 !5", "ink 1 !price 5", "ink 1 !last 5", "ink 1 lasts !0", "ink 1 lasts !1000",
            "ink 1 lasts !price 5", "ink 1 lasts 5 price !100", "ink 1 lasts 5 price !;", "ink 1 lasts 5 !5", "ink 1 lasts 5 price 5 !price 5",
            "ink 1 lasts 5 !lasts 5", "ink !-1 lasts 5", "ink 1 lasts 5 !light");
    }

    private static void paperItems(Edges e) {
        e.terms("paper, a NUMBER (0 to 3), light or dark: so it is;");
        InkHours x = new InkHours();
        x.light(1, true);
        x.light(2, true);
        Scenes.read(x, "paper 0 light;paper 1 dark;paper 2 light;paper 3 dark");
        for (int p = 0; p < 4; p++) e.is("PAPER " + p, x.light(p, false), p == 0 || p == 2 ? 1 : 0);
        faults(e, "paper !4 light", "paper !light", "paper 0 !lit", "paper 0 !;", "paper 0 !0", "paper 0 light !dark", "paper 0 dark !1", "paper 0 !not light");
    }

    private static void onItems(Edges e) {
        e.terms("on, a NUMBER (0 to 3: PAPER), perhaps ink and a NUMBER (0 to 7; 0 without), and 1 or more of a, b, c, d, not, and, or, bold, faint, blot");
        InkHours x = Scenes.at(3);
        Scenes.read(x, "on 3 ink 7 a;on 0 b;on 1 ink 0 c");
        int[][] marks = {{3, 0, 7}, {0, 1, 0}, {1, 2, 0}};
        for (int[] m : marks) {
            e.is("LETTER on " + m[0], x.markOf(m[0], 0, 1), m[1]);
            e.is("INK on " + m[0], x.markOf(m[0], 0, 2), m[2]);
        }
        faults(e, "on !4 a", "on !a", "on 0 ink !8 a", "on 0 ink !a", "on 0 ink 1 !ink 1 a", "on 0 a !ink 1 b", "on 0 !;", "on 0 ink 1 !;", "on 0 a !1", "on 0 !e",
            "on 0 a !e", "on 0 a !light", "on 0 a !on", "on 0 !1", "on 0 !nor", "on 0 !blots");
        e.terms("(bold and faint each ahead of one of a to d):");
        e.is("bold a", text("on 0 bold a"), 1);
        e.is("faint d", text("on 0 faint d"), 1);
        faults(e, "on 0 bold !e", "on 0 bold !not", "on 0 bold !bold a", "on 0 bold !faint a", "on 0 faint !;", "on 0 faint !1", "on 0 faint !and", "on 0 bold !blot", "on 0 a faint !or");
        e.terms("MARKS of KINDS 1, 2, 3, 5, 4, 6, 0 in this order behind those that there are, AT NOW (LETTER 0, where none is told).");
        x = Scenes.at(9);
        x.write(2, 6, 3, 3);
        x.hours(1);
        Scenes.read(x, "on 2 ink 5 a b c d not and or bold b faint d blot");
        int[] kinds = {6, 1, 1, 1, 1, 2, 3, 5, 4, 6, 0};
        int[] letters = {3, 0, 1, 2, 3, 0, 0, 0, 1, 3, 0};
        for (int m = 0; m <= 10; m++) {
            e.is("KIND of " + m, x.markOf(2, m, 0), kinds[m]);
            e.is("LETTER of " + m, x.markOf(2, m, 1), letters[m]);
            e.is("INK of " + m, x.markOf(2, m, 2), m == 0 ? 3 : 5);
            e.is("AT of " + m, x.markOf(2, m, 3), m == 0 ? 9 : 10);
        }
        e.is("no more of them", x.markOf(2, 11, 0), Due.BEYOND);
    }

    private static void faultWords(Edges e) {
        e.terms("FAULT: the place (from 0) of the first byte of the first TOKEN that can't stand there");
        faults(e, "!x", " !x", "on 0 a;  !x y", "on !9 9", "ink 1 lasts 5;paper 0 light;on 0 !lasts", blanks(119) + "!x");
        e.terms("(a NUMBER that isn't as told, another WORD, a byte that begins no TOKEN,");
        faults(e, "ink !8 lasts 5", "ink 1 lasts !0", "on 0 !word", "on 0 !.", "!9", "on 0 a !0", "ink 1 !light", "on 0 bold !-", "paper 1 !dim", "paper 1 !?", "on 0 a ; !9");
    }

    private static InkHours withMarks(int n) {
        InkHours x = new InkHours();
        for (int i = 0; i < n; i++) x.write(0, 1, 1, 1);
        return x;
    }

    private static void thirteenth(Edges e) {
        e.terms("the WORD by which there would be a 13th MARK: its own, of bold and faint the first one),");
        e.is("twelve", text("on 0 a a a a a a a a a a a a"), 1);
        e.is("twelve, the last is bold", text("on 0 a a a a a a a a a a a bold b"), 1);
        String twelve = "on 0 a a a a a a a a a a a a ";
        faults(e, twelve + "!a", twelve + "!not", twelve + "!and", twelve + "!or", twelve + "!blot", twelve + "!bold d", twelve + "!faint a", twelve + "!a;on 1 a",
            "on 0 a a a a a a;on 1 a;on 0 a a a a a a !b", "on 0 a a a a a a a a a a a bold c !faint d");
        e.is("one has room behind eleven", Scenes.read(withMarks(11), "on 0 faint a").markOf(0, 11, 0), 6);
        e.fault(() -> withMarks(11), "on 0 a !b");
        e.fault(() -> withMarks(12), "on 0 !a");
        e.fault(() -> withMarks(12), "on 1 a;on 0 ink 1 !bold a");
        e.fault(Scenes::rich, "on 0 a a a a a a !a");
        e.fault(Scenes::rich, "on 1 a;on 3 !blot");
    }

    private static void endsTooEarly(Edges e) {
        e.terms("or how many bytes there are if it ends too early.");
        faults(e, "!", " !", "ink!", "ink 1!", "ink 1 lasts!", "ink 1 lasts 5 price!", "ink 1 lasts 5;!", "paper!", "paper 1!", "paper 1 dark; !", "on!", "on 1!", "on 1 ink!",
            "on 1 ink 1!", "on 1 ink 1  !", "on 1 bold!", "on 1 a faint   !", "on 1 a;!", blanks(120) + "!", blanks(118) + "on!");
    }

    private static void feed(Edges e) {
        e.promise(30, "THE TAPE gets the n lowest bytes of a number behind it, the highest of these first (n 1 to 4): how many it has.");
        InkHours x = new InkHours();
        e.is("one", x.feed(0x7a7a7a6f, 1), 1);
        e.is("two", x.feed(0x7a7a6e20, 2), 3);
        e.is("three", x.feed(0x7a302062, 3), 6);
        e.is("four", x.feed(0x20202020, 4), 10);
        e.is("'on 0 b'", x.text(), 1);
        e.is("a byte above 127", fed(3).feed(-1, 1), 4);
        x = new InkHours();
        x.feed('x', 1);
        x.feed(-1, 4);
        e.is("in this order: x is the first", x.text(), -1);
        e.promise(30, "BEYOND: n.");
        e.range("n", Scenes::rich, 1, 4, (y, v) -> y.feed(0, v));
        e.range("n, when there is room for one", () -> fed(119), 1, 4, (y, v) -> y.feed(0, v));
        e.promise(30, "FULL.");
        for (int n = 1; n <= 4; n++) {
            int more = n;
            e.is("up to 120", fed(120 - n).feed(0x20202020, n), 120);
            e.refuses("up to 121", () -> fed(121 - more), Due.FULL, y -> y.feed(0x20202020, more));
            e.refuses("120 and " + n, () -> fed(120), Due.FULL, y -> y.feed(0x20202020, more));
        }
    }

    private static void wipe(Edges e) {
        e.promise(31, "THE TAPE is empty: how many it had.");
        e.is("none", new InkHours().wipe(), 0);
        e.is("one", fed(1).wipe(), 1);
        InkHours x = fed(120);
        e.is("120", x.wipe(), 120);
        e.is("none is left", x.count(4), 0);
        e.is("none is left", x.wipe(), 0);
        e.is("there is room again", x.feed(0, 4), 4);
        x = new InkHours();
        Scenes.feed(x, "on 0 b ");
        x.wipe();
        e.is("what was there isn't read", Scenes.read(x, "on 0 a").means(0, 0), Due.A);
    }

    private static void text(Edges e) {
        e.promise(32, "THE TAPE is a TEXT, and empty then;");
        InkHours x = Scenes.of("on 0 a");
        e.is("THE TAPE is empty", x.count(4), 0);
        e.is("and has no TEXT a second time", x.text(), -1);
        e.promise(32, "all that it tells is so, item by item:");
        x = Scenes.of("ink 2 lasts 5;ink 2 lasts 6;paper 1 light;paper 1 dark;on 0 ink 2 a;on 0 ink 3 not");
        e.is("the later LASTS", x.ink(2, 0, 9), 6);
        e.is("the later LIGHT", x.light(1, true), 0);
        e.is("the first MARK", x.markOf(0, 0, 2), 2);
        e.is("the second MARK", x.markOf(0, 1, 2), 3);
        e.promise(32, "how many ITEMS.");
        e.is("one", text("paper 0 light"), 1);
        e.is("three, one of four MARKS", text("paper 0 light;on 0 a b c d;ink 0 lasts 5 price 5"), 3);
        StringBuilder most = new StringBuilder("on0a");
        for (int i = 1; i < 24; i++) most.append(";on").append(i % 4).append("a");
        e.is("24, of 119 bytes", text(most.toString()), 24);
        e.is("a finding it is not", Scenes.rich().text(), 2);
    }

    private static void textWithFault(Edges e) {
        e.promise(32, "With a FAULT: -1 less the FAULT");
        e.is("FAULT 0", text("x"), -1);
        e.is("FAULT 1", text(" x"), -2);
        e.is("FAULT 119", text(blanks(119) + "x"), -120);
        e.is("FAULT 120", text(blanks(120)), -121);
        e.promise(32, "(nothing changes but that THE TAPE is empty; no finding).");
        e.fault(Scenes::rich, "ink 1 lasts 5 price 7;paper 0 light;paper 1 dark;on 0 a b;on 2 c;on !4 a");
        e.fault(Scenes::rich, "on 0 a a a a a a;ink 0 lasts 1;!");
        e.fault(Scenes::rich, "!");
        e.fault(() -> Scenes.of("on 0 a"), "on 0 b;paper 0 !a");
        InkHours x = new InkHours();
        Scenes.feed(x, "on 0 a;x");
        x.text();
        for (int which = -1; which <= 6; which++) e.is("status(" + which + ")", x.status(which), 0);
        e.is("what was undone can't be held", x.hold(0, 0, 0), Due.BEYOND);
        e.is("the next TEXT is read anew", Scenes.read(x, "on 0 b").means(0, 0), Due.B);
    }
}
