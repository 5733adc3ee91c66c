/** Under "Terms", 1 and 2: HOURS, INKS, PAPERS, MARKS, KINDS, STAYS, AGE, SEEN, GONE, THE SENTENCE, MEANING, ONE MARK MORE, COPIED, DRAWS. */
final class EdgesOfMarks {
    private EdgesOfMarks() { }

    static void ask(Edges e) {
        hoursAndInks(e);
        marks(e);
        staysOfKinds(e);
        age(e);
        seenAndGone(e);
        sentence(e);
        meaning(e);
        staysUpTo(e);
        oneMarkMore(e);
        copied(e);
        draws(e);
    }

    private static void hoursAndInks(Edges e) {
        e.terms("HOURS are 0 to 9999;");
        e.range("seen at", Scenes::rich, 0, 9999, (x, v) -> x.seen(0, v));
        e.range("means at", Scenes::rich, 0, 9999, (x, v) -> x.means(0, v));
        e.terms("NOW is one (0 at first).");
        e.is("NOW", new InkHours().count(0), 0);
        e.is("NOW is 9999 at most", Scenes.at(9999).count(0), 9999);
        e.refuses("NOW isn't 10000", () -> Scenes.at(9999), Due.STATE, x -> x.hours(1));
        e.terms("INKS 0 to 7:");
        e.range("INK", Scenes::rich, 0, 7, (x, v) -> x.write(2, 1, 0, v));
        e.terms("LASTS (1 to 999; 24 at first),");
        e.range("LASTS", Scenes::rich, 1, 999, (x, v) -> x.ink(0, 0, v));
        for (int i = 0; i < 8; i++) e.is("LASTS of " + i, new InkHours().ink(i, 0, 5), 24);
        e.terms("PRICE (0 to 99; 1 at first).");
        e.range("PRICE", Scenes::rich, 0, 99, (x, v) -> x.ink(0, 1, v));
        for (int i = 0; i < 8; i++) e.is("PRICE of " + i, new InkHours().ink(i, 1, 5), 1);
        e.terms("PAPERS 0 to 3, each in LIGHT or not (at first).");
        e.range("PAPER", Scenes::rich, 0, 3, (x, v) -> x.seen(v, 0));
        InkHours x = new InkHours();
        for (int p = 0; p < 4; p++) e.is("PAPER " + p + " at first", x.light(p, true), 0);
        for (int p = 0; p < 4; p++) e.is("PAPER " + p + " then", x.light(p, true), 1);
    }

    private static void marks(Edges e) {
        e.terms("On each there are MARKS 0, 1, .. (at most 12, in this order),");
        InkHours x = new InkHours();
        for (int p = 0; p < 4; p++) {
            for (int m = 0; m < 12; m++) e.is("MARK " + m + " of " + p, x.write(p, 1, (m + p) % 4, 0), m);
            for (int m = 0; m < 12; m++) e.is("in this order: " + m + " of " + p, x.markOf(p, m, 1), (m + p) % 4);
        }
        e.is("4 times 12", x.count(1), 48);
        for (int p = 0; p < 4; p++) e.is("a 13th on " + p, x.write(p, 1, 0, 0), Due.FULL);
        e.terms("each with a LETTER (0 to 3: a to d),");
        e.range("LETTER", Scenes::rich, 0, 3, (y, v) -> y.write(2, 1, v, 0));
        int[] truths = {Due.A, Due.B, Due.C, Due.D};
        for (int k = 0; k < 4; k++) {
            InkHours y = new InkHours();
            y.write(0, 1, k, 0);
            e.is("LETTER " + k, y.means(0, 0), truths[k]);
            e.is("LETTER " + k + " as it is read", Scenes.of("on 0 " + "abcd".charAt(k)).means(0, 0), truths[k]);
        }
        e.terms("an INK, the HOUR at which it was written (AT);");
        InkHours late = Scenes.at(9999);
        late.write(0, 1, 0, 7);
        e.is("INK", late.markOf(0, 0, 2), 7);
        e.is("AT 9999", late.markOf(0, 0, 3), 9999);
        late = new InkHours();
        late.write(0, 1, 0, 0);
        late.hours(1);
        e.is("AT 0, an HOUR later", late.markOf(0, 0, 3), 0);
        e.terms("KINDS: 0 MARK; 1 WORD, 2 NO, 3 JOIN under MARK; 4 BOLD, 6 FAINT under WORD; 5 OR under JOIN.");
        e.range("KIND", Scenes::rich, 0, 6, (y, v) -> y.write(2, v, 0, 0));
        int[][] under = {{0}, {0, 1}, {0, 2}, {0, 3}, {0, 1, 4}, {0, 3, 5}, {0, 1, 6}};
        for (int kind = 0; kind < 7; kind++) {
            for (int asked = 0; asked < 7; asked++) {
                InkHours y = new InkHours();
                y.write(0, kind, 0, 0);
                y.hold(0, 0, 0);
                int want = Due.KIND;
                for (int above : under[kind]) if (above == asked) want = 0;
                e.is("KIND " + kind + " as " + asked, y.as(0, asked), want);
            }
        }
    }

    private static int stays(int kind, int lasts) {
        InkHours x = new InkHours();
        x.ink(3, 0, lasts);
        x.write(0, kind, 0, 3);
        return x.markOf(0, 0, 4);
    }

    private static void staysOfKinds(Edges e) {
        e.terms("STAYS of a MARK: MARK: what its INK LASTS.");
        e.is("LASTS 1", stays(0, 1), 1);
        e.is("LASTS 999", stays(0, 999), 999);
        e.terms("BOLD: twice what a WORD does.");
        e.is("LASTS 1", stays(4, 1), 2);
        e.is("LASTS 999", stays(4, 999), 1998);
        e.terms("FAINT: half of that of a WORD, 1 at least.");
        e.is("LASTS 1: the half is cut to 0", stays(6, 1), 1);
        e.is("LASTS 2", stays(6, 2), 1);
        e.is("LASTS 3", stays(6, 3), 1);
        e.is("LASTS 4: the first that is above 1", stays(6, 4), 2);
        e.is("LASTS 999", stays(6, 999), 499);
        e.terms("(Others as the KIND above.)");
        for (int kind : new int[] {1, 2, 3, 5}) {
            e.is("KIND " + kind + ", LASTS 1", stays(kind, 1), 1);
            e.is("KIND " + kind + ", LASTS 999", stays(kind, 999), 999);
        }
    }

    /** A MARK that was written at an HOUR on a PAPER in LIGHT, or not. */
    private static InkHours written(int at, boolean lit) {
        InkHours x = Scenes.at(at);
        x.light(0, lit);
        x.write(0, 1, 0, 0);
        return x;
    }

    private static void age(Edges e) {
        e.terms("AGE of a MARK at an HOUR: how many HOURS there are from AT on up to that one (it not);");
        e.is("at AT: none", written(7, false).age(0, 0, 7), 0);
        e.is("an HOUR later: AT", written(7, false).age(0, 0, 8), 1);
        e.is("from 0 to 9999", written(0, false).age(0, 0, 9999), 9999);
        e.is("AT 9999", written(9999, false).age(0, 0, 9999), 0);
        e.terms("on a PAPER in LIGHT those whose rest by 24 is 6 to 17 count twice.");
        int[][] twice = {{5, 6, 1}, {6, 7, 2}, {17, 18, 2}, {18, 19, 1}, {29, 30, 1}, {30, 31, 2}, {41, 42, 2}, {42, 43, 1}, {23, 25, 2},
            {6, 6, 0}, {0, 6, 6}, {6, 18, 24}, {18, 30, 12}, {0, 24, 36}, {0, 9999, 15000}, {9998, 9999, 2}};
        for (int[] t : twice) e.is("from " + t[0] + " on up to " + t[1], written(t[0], true).age(0, 0, t[1]), t[2]);
        e.is("not so in the dark", written(6, false).age(0, 0, 18), 12);
    }

    private static void seenAndGone(Edges e) {
        e.terms("It is SEEN at an HOUR, if that isn't ahead of AT, and AGE is less than STAYS;");
        InkHours x = written(100, false);
        e.is("an HOUR ahead of AT", x.seen(0, 99), 0);
        e.is("at AT", x.seen(0, 100), 1);
        e.is("AGE is STAYS less 1", x.seen(0, 123), 1);
        e.is("AGE is STAYS", x.seen(0, 124), 0);
        x = written(100, true);
        // From 100 (rest 4) on: 2 once, 102 to 112 twice are 24.
        e.is("in LIGHT: AGE is 22", x.age(0, 0, 112), 22);
        e.is("in LIGHT: AGE is 22", x.seen(0, 112), 1);
        e.is("in LIGHT: AGE is 24", x.seen(0, 113), 0);
        e.terms("GONE, if it isn't less.");
        e.is("the first HOUR", written(100, false).gone(0, 0), 124);
        e.is("in LIGHT", x.gone(0, 0), 113);
        x.ink(0, 0, 23);
        e.is("AGE never is 23", x.gone(0, 0), 113);
        x.ink(0, 0, 22);
        e.is("AGE is 22", x.gone(0, 0), 112);
    }

    private static int means(String marks) { return Scenes.of("on 0 " + marks).means(0, 0); }

    private static void none(Edges e, String... marks) {
        for (String m : marks) e.is(m, means(m), -1);
    }

    private static void sentence(Edges e) {
        e.terms("THE SENTENCE at an HOUR: of the MARKS that are SEEN then, in their order, those that aren't of KIND 0:");
        e.is("blots don't count", means("blot a blot and blot b blot"), Due.A & Due.B);
        e.is("nor in the midst of noes", means("not blot a"), Due.ALL ^ Due.A);
        InkHours x = Scenes.of("ink 1 lasts 5;on 0 ink 1 not;on 0 a");
        e.is("both are SEEN", x.means(0, 4), Due.ALL ^ Due.A);
        e.is("one is SEEN", x.means(0, 5), Due.A);
        e.is("none is SEEN", x.means(0, 24), -1);
        e.is("in their order", means("not a and b"), Due.B & ~Due.A);
        e.terms("S = T { OR T };");
        e.is("one T", means("a"), Due.A);
        e.is("two", means("a or b"), Due.A | Due.B);
        e.is("six", means("a or b or c or d or a or b"), Due.A | Due.B | Due.C | Due.D);
        e.is("T ahead", means("a and b or c"), Due.A & Due.B | Due.C);
        e.is("T behind", means("a or b and c"), Due.A | Due.B & Due.C);
        none(e, "or", "or a", "a or", "a or or b", "a or and b", "a or not");
        e.terms("T = F { JOIN F };");
        e.is("two", means("a and b"), Due.A & Due.B);
        e.is("six", means("a and b and c and d and a and b"), Due.A & Due.B & Due.C & Due.D);
        none(e, "and", "and a", "a and", "a and and b", "a and or b", "a b", "a bold b", "a and not");
        e.terms("F = NO F, or a LETTER (a WORD, BOLD or FAINT one).");
        e.is("a WORD", means("c"), Due.C);
        e.is("a BOLD one", means("bold c"), Due.C);
        e.is("a FAINT one", means("faint c"), Due.C);
        e.is("a NO", means("not c"), Due.ALL ^ Due.C);
        e.is("eleven noes", means("not not not not not not not not not not not c"), Due.ALL ^ Due.C);
        e.is("ten noes", means("not not not not not not not not not not c"), Due.C);
        e.is("a NO is of its F alone", means("not a and b or not c and d"), ~Due.A & Due.B | ~Due.C & Due.D & Due.ALL);
        none(e, "not", "not not", "a not", "a not b", "not and a", "not or a");
    }

    private static void meaning(Edges e) {
        e.terms("MEANING: the set of TRUTHS (0 to 15; LETTER k is true in those that have bit k) by which it is true:");
        e.is("none but TRUTH 0", means("not a and not b and not c and not d"), 1);
        e.is("none but TRUTH 15", means("a and b and c and d"), 32768);
        for (int k = 0; k < 4; k++) {
            InkHours x = Scenes.of("on 0 " + "abcd".charAt(k));
            for (int truth = 0; truth < 16; truth++) e.is("LETTER " + k + " by " + truth, x.says(0, 0, truth), truth >> k & 1);
        }
        e.terms("NO turns it, JOIN wants both, OR any;");
        e.is("NO", means("not a"), 0x5555);
        e.is("JOIN", means("a and b"), 0x8888);
        e.is("OR", means("a or b"), 0xEEEE);
        e.is("by no TRUTH: that is a MEANING", means("a and not a"), 0);
        e.is("by all TRUTHS", means("a or not a"), 65535);
        e.terms("-1 if what is SEEN is no such S (also nothing).");
        e.is("nothing was written", new InkHours().means(0, 0), -1);
        e.is("nothing but blots", means("blot blot"), -1);
        e.is("nothing ahead of AT", written(5, false).means(0, 4), -1);
        e.is("nothing is left", written(5, false).means(0, 29), -1);
        e.is("no such S", means("a b"), -1);
    }

    private static void staysUpTo(Edges e) {
        e.terms("A MEANING STAYS up to an HOUR, if it is the same at all HOURS from NOW up to that one (it, too).");
        InkHours x = Scenes.of("ink 1 lasts 5;ink 2 lasts 6;on 0 a;on 0 ink 1 and;on 0 ink 2 a");
        e.is("NOW alone", x.stays(0, 0), 1);
        e.is("the HOUR ahead of a change", x.stays(0, 4), 1);
        e.is("the HOUR of the change", x.stays(0, 5), 0);
        e.is("at 6 it is the same, at 5 it isn't", x.stays(0, 6), 0);
        x.hours(6);
        e.is("what was ahead of NOW doesn't count", x.stays(0, 23), 1);
    }

    private static void oneMarkMore(Edges e) {
        e.terms("ONE MARK MORE: a MARK of KIND 1, 2, 3 or 5 (of a WORD any LETTER)");
        for (int k = 0; k < 4; k++) e.is("KIND 1, LETTER " + k, new InkHours().forge(0, new int[] {Due.A, Due.B, Due.C, Due.D}[k]), 10 + k);
        e.is("KIND 2", Scenes.of("on 0 a").forge(0, Due.ALL ^ Due.A), 20);
        e.is("KIND 3", Scenes.of("on 0 a b").forge(0, Due.A & Due.B), 130);
        e.is("KIND 5", Scenes.of("on 0 a b").forge(0, Due.A | Due.B), 150);
        e.refuses("a MARK of KIND 0 would leave it as it is", () -> Scenes.of("on 0 a"), Due.NONE, x -> x.forge(0, Due.A));
        e.terms("at any place among the MARKS of a PAPER (0: ahead of all),");
        e.is("ahead of all", Scenes.of("on 0 and b").forge(0, Due.A & Due.B), 10);
        e.is("behind all", Scenes.of("on 0 a and").forge(0, Due.A & Due.B), 211);
        e.is("behind eleven", Scenes.of("on 0 blot blot blot blot blot blot blot blot blot a and").forge(0, Due.A & Due.B), 1111);
        e.is("MARKS that aren't SEEN have a place, too", EdgesOfForging.faded().forge(0, Due.A & Due.B), 311);
        e.terms("SEEN NOW as others are.");
        e.is("one is GONE", EdgesOfForging.faded().forged(0), 4);
        InkHours x = Scenes.at(9999);
        e.is("NOW is 9999", x.forge(0, Due.D), 13);
    }

    private static void copied(Edges e) {
        e.terms("COPIED is a MARK in an INK: AT is NOW, INK that one.");
        InkHours x = Scenes.of("on 0 bold d");
        Scenes.go(x, 9999);
        e.is("it was GONE", x.seen(0, 9999), 0);
        e.is("copied", x.copied(0, 0, 7), 0);
        e.is("AT", x.markOf(0, 0, 3), 9999);
        e.is("INK", x.markOf(0, 0, 2), 7);
        e.is("it is SEEN", x.seen(0, 9999), 1);
        e.is("its KIND is left", x.markOf(0, 0, 0), 4);
        e.is("its LETTER is left", x.markOf(0, 0, 1), 3);
    }

    private static void draws(Edges e) {
        e.terms("DRAWS: z is told (1 at first);");
        e.is("at first", new InkHours().count(5), 1);
        e.terms("each makes it z * 1103515245 + 12345 (an int),");
        long[] seeds = {0, 1, 2, -1, 77, Integer.MAX_VALUE, Integer.MIN_VALUE, 1 << 30};
        for (long z : seeds) {
            InkHours x = Scenes.of("on 0 a");
            x.seed((int) z);
            x.clerk(0, 1, 0);
            e.is("from " + z, x.count(5), (int) (z * 1103515245L + 12345L));
        }
        e.terms("and gives z >>> 8.");
        // 1 makes 1103527590, which gives 4310654; 77 and 3 make -928659710 and -984409216, below 0, and give 13149639 and 12931867.
        int[][] marks = {{1, 2}, {77, 3}, {3, 7}};
        for (int[] m : marks) {
            InkHours x = Scenes.of("on 0 a a a a a a a a a a a a");
            x.seed(m[0]);
            x.clerk(0, 1, 5);
            for (int k = 0; k < 12; k++) e.is("of " + m[0] + " MARK " + k, x.markOf(0, k, 2), k == m[1] ? 5 : 0);
        }
    }
}
