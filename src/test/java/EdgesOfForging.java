/** Promises 24 to 29: forged, forge, earliest, latest, clerk, seed. */
final class EdgesOfForging {
    private EdgesOfForging() { }

    static void ask(Edges e) {
        forged(e);
        forge(e);
        fullPaper(e);
        dates(e);
        datesRefused(e);
        clerk(e);
        seed(e);
    }

    /** a and, behind a NO that is GONE: NOW is 2. */
    static InkHours faded() {
        InkHours x = Scenes.of("ink 1 lasts 2;on 0 ink 1 not;on 0 a and");
        x.hours(2);
        return x;
    }

    private static void forged(Edges e) {
        e.promise(24, "How many MEANINGS (none doesn't count, that of NOW does) a PAPER can have NOW by ONE MARK MORE.");
        e.is("an empty one: a, b, c, d", new InkHours().forged(0), 4);
        e.is("none: no one mark makes it a sentence", Scenes.of("on 0 a b c").forged(0), 0);
        e.is("one: not a", Scenes.of("on 0 a").forged(0), 1);
        e.is("two: and, or", Scenes.of("on 0 a b").forged(0), 2);
        e.is("that of NOW (never) counts: not ahead of the first or of b", Scenes.of("on 0 a and not a and b").forged(0), 3);
        e.is("like ones count once", Scenes.of("on 0 a and a").forged(0), 1);
        e.is("four: any letter behind all", Scenes.of("on 0 a or b and").forged(0), 4);
        InkHours x = faded();
        e.is("what is SEEN NOW", x.forged(0), 4);
        e.is("no MARK is made", x.count(1), 3);
        e.asks("forged", y -> y.forged(0));
        e.promise(24, "BEYOND.");
        e.range("PAPER", Scenes::rich, 0, 3, InkHours::forged);
    }

    private static void forge(Edges e) {
        e.promise(25, "ONE MARK MORE by which a PAPER has a MEANING NOW: 100 times the place, 10 times the KIND, and the LETTER (0 but of a WORD);");
        e.is("place 0, KIND 1, LETTER 0", new InkHours().forge(0, Due.A), 10);
        e.is("place 0, KIND 1, LETTER 3", new InkHours().forge(0, Due.D), 13);
        e.is("place 0, KIND 2", Scenes.of("on 0 c").forge(0, Due.ALL ^ Due.C), 20);
        e.is("place 1, KIND 3", Scenes.of("on 0 c d").forge(0, Due.C & Due.D), 130);
        e.is("place 1, KIND 5", Scenes.of("on 0 c d").forge(0, Due.C | Due.D), 150);
        e.is("place 11, KIND 1, LETTER 3", Scenes.of("on 0 blot blot blot blot blot blot blot blot blot a and").forge(0, Due.A & Due.D), 1113);
        e.is("MEANING 0", Scenes.of("on 0 a and not").forge(0, 0), 310);
        e.is("MEANING 65535", Scenes.of("on 0 a or not").forge(0, 65535), 310);
        InkHours x = Scenes.of("on 0 a b");
        x.forge(0, Due.A & Due.B);
        e.is("no MARK is made", x.count(1), 2);
        e.asks("forge", y -> y.forge(2, Due.B));
        e.promise(25, "of several the least.");
        e.is("a NO ahead of a or of the NO", Scenes.of("on 0 not a").forge(0, Due.A), 20);
        e.is("a at place 0 or 2", Scenes.of("on 0 and a").forge(0, Due.A), 10);
        e.is("the place goes ahead of the KIND", Scenes.of("on 0 a and").forge(0, Due.A & Due.B), 211);
        e.promise(25, "BEYOND: also meaning -1.");
        e.range("PAPER", Scenes::rich, 0, 3, (y, v) -> y.forge(v, Due.A));
        e.range("MEANING", Scenes::rich, 0, 65535, (y, v) -> y.forge(2, v));
        e.refuses("-1 of one that has none", Scenes::rich, Due.BEYOND, y -> y.forge(2, -1));
        e.promise(25, "NONE.");
        e.refuses("by no MARK", Scenes::rich, Due.NONE, y -> y.forge(2, 0));
        e.refuses("a NO alone", Scenes::rich, Due.NONE, y -> y.forge(2, Due.ALL ^ Due.A));
        e.refuses("that of NOW, which no MARK more leaves", () -> Scenes.of("on 0 a"), Due.NONE, y -> y.forge(0, Due.A));
    }

    /** ONE MARK MORE is thought of alone, so that a PAPER with 12 has a place for it. */
    private static void fullPaper(Edges e) {
        e.promise(24, "a PAPER can have NOW by ONE MARK MORE.");
        e.is("twelve: not not d and its like", Scenes.rich().forged(3), 1);
        e.promise(25, "100 times the place,");
        e.is("behind twelve", Scenes.of("on 0 blot blot blot blot blot blot blot blot blot blot a and").forge(0, Due.A & Due.C), 1212);
        e.is("among twelve", Scenes.rich().forge(3, Due.D), 20);
    }

    private static void dates(Edges e) {
        e.promise(26, "The earliest HOUR at which a MARK of KIND 1 in an INK on a PAPER can have been written that is SEEN at an HOUR.");
        InkHours x = Scenes.of("ink 1 lasts 10;ink 2 lasts 1;ink 3 lasts 999;paper 2 light");
        int[][] seen = {{0, 1, 0, 0}, {0, 1, 9, 0}, {0, 1, 10, 1}, {0, 1, 9999, 9990}, {0, 2, 0, 0}, {0, 2, 1, 1}, {0, 2, 9999, 9999}, {0, 3, 998, 0},
            {0, 3, 999, 1}, {0, 3, 9999, 9001}, {2, 1, 6, 0}, {2, 1, 7, 0}, {2, 1, 8, 1}, {2, 1, 13, 9}, {2, 1, 18, 14}, {2, 1, 20, 15}, {2, 1, 21, 15},
            {2, 1, 30, 21}, {2, 2, 13, 13}, {2, 3, 9999, 9334}};
        for (int[] s : seen) e.is("earliest(" + s[0] + ", " + s[1] + ", " + s[2] + ")", x.earliest(s[0], s[1], s[2]), s[3]);
        for (int[] s : seen) if (s[3] > 0) probe(e, s[0] == 2, s[1] == 1 ? 10 : s[1] == 2 ? 1 : 999, s[2], s[3]);
        e.asks("earliest", y -> y.earliest(1, 0, 100));
        e.promise(27, "The latest HOUR at which one can have been written that is GONE at an HOUR.");
        int[][] gone = {{0, 1, 10, 0}, {0, 1, 11, 1}, {0, 1, 9999, 9989}, {0, 2, 1, 0}, {0, 2, 9999, 9998}, {0, 3, 999, 0}, {0, 3, 9999, 9000},
            {2, 1, 8, 0}, {2, 1, 13, 8}, {2, 1, 18, 13}, {2, 1, 20, 14}, {2, 1, 21, 14}, {2, 1, 30, 20}, {2, 2, 13, 12}, {2, 3, 9999, 9333}};
        e.asks("latest", y -> y.latest(1, 0, 100));
        for (int[] g : gone) e.is("latest(" + g[0] + ", " + g[1] + ", " + g[2] + ")", x.latest(g[0], g[1], g[2]), g[3]);
    }

    /** One that was written at the earliest HOUR is SEEN at the HOUR, one that was an HOUR ahead of that is GONE. */
    private static void probe(Edges e, boolean lit, int lasts, int hour, int earliest) {
        for (int back = 0; back <= 1; back++) {
            InkHours x = Scenes.at(earliest - back);
            x.light(0, lit);
            x.ink(0, 0, lasts);
            x.write(0, 1, 0, 0);
            e.is("written at " + (earliest - back) + ", SEEN at " + hour, x.seen(0, hour), 1 - back);
        }
    }

    private static void datesRefused(Edges e) {
        e.promise(26, "BEYOND.");
        e.range("PAPER", Scenes::rich, 0, 3, (x, v) -> x.earliest(v, 0, 100));
        e.range("INK", Scenes::rich, 0, 7, (x, v) -> x.earliest(0, v, 100));
        e.range("HOUR", Scenes::rich, 0, 9999, (x, v) -> x.earliest(0, 0, v));
        e.promise(27, "BEYOND.");
        e.range("PAPER", Scenes::rich, 0, 3, (x, v) -> x.latest(v, 0, 100));
        e.range("INK", Scenes::rich, 0, 7, (x, v) -> x.latest(0, v, 100));
        e.range("HOUR", Scenes::rich, 0, 9999, (x, v) -> x.latest(0, 0, v));
        e.promise(27, "NONE.");
        e.is("at 24 one of 0 is GONE", Scenes.rich().latest(0, 0, 24), 0);
        e.refuses("at 23 none is", Scenes::rich, Due.NONE, x -> x.latest(0, 0, 23));
        e.refuses("at 0 none is", Scenes::rich, Due.NONE, x -> x.latest(0, 0, 0));
        e.is("in LIGHT, at 15 one of 0 is GONE", Scenes.rich().latest(1, 0, 15), 0);
        e.refuses("in LIGHT, at 14 none is", Scenes::rich, Due.NONE, x -> x.latest(1, 0, 14));
    }

    private static void clerk(Edges e) {
        e.promise(28, "n MARKS (1 to 12) of a PAPER, each the rest of a draw by how many there are, are COPIED in an INK: how many unlike ones.");
        // 1 makes 1103527590, which gives 4310654; then -1770082073 and 9862832; then 662824084 and 2589156.
        InkHours x = Scenes.rich();
        x.seed(1);
        e.is("the rests by 12 are 2, 8, 0: three", x.clerk(3, 3, 5), 3);
        e.is("z", x.count(5), 662824084);
        for (int m = 0; m < 12; m++) {
            boolean is = m == 2 || m == 8 || m == 0;
            e.is("INK of " + m, x.markOf(3, m, 2), is ? 5 : 0);
            e.is("AT of " + m, x.markOf(3, m, 3), is ? 20 : 10);
        }
        x = Scenes.rich();
        x.seed(1);
        e.is("the rests by 2 are 0, 0: one", x.clerk(1, 2, 7), 1);
        e.is("MARK 0", x.markOf(1, 0, 2), 7);
        e.is("not MARK 1", x.markOf(1, 1, 2), 1);
        x = Scenes.of("on 0 a b c");
        x.hours(3);
        e.is("the rests by 3 are 2, 2: one, and not the first", x.clerk(0, 2, 7), 1);
        e.is("MARK 2", x.markOf(0, 2, 2), 7);
        x = Scenes.of("on 0 a");
        e.is("of one MARK, n 1", x.clerk(0, 1, 1), 1);
        e.is("of one MARK, n 12", x.clerk(0, 12, 1), 1);
        e.promise(28, "BEYOND.");
        e.range("PAPER", () -> Scenes.read(Scenes.rich(), ";on 2 a"), 0, 3, (y, v) -> y.clerk(v, 3, 0));
        e.range("n", Scenes::rich, 1, 12, (y, v) -> y.clerk(0, v, 0));
        e.range("INK", Scenes::rich, 0, 7, (y, v) -> y.clerk(0, 3, v));
        e.promise(28, "STATE: there are none.");
        e.refuses("n 1", Scenes::rich, Due.STATE, y -> y.clerk(2, 1, 0));
        e.refuses("n 12", Scenes::rich, Due.STATE, y -> y.clerk(2, 12, 7));
        e.is("one is there", Scenes.read(Scenes.rich(), ";on 2 blot").clerk(2, 1, 0), 1);
    }

    private static void seed(Edges e) {
        e.promise(29, "z becomes v: what it was.");
        InkHours x = new InkHours();
        e.is("at first", x.seed(Integer.MAX_VALUE), 1);
        e.is("the greatest int", x.seed(Integer.MIN_VALUE), Integer.MAX_VALUE);
        e.is("the least int", x.seed(0), Integer.MIN_VALUE);
        e.is("0", x.seed(-1), 0);
        e.is("-1", x.count(5), -1);
    }
}
