/** Promises 20 to 23: stays, cheapest, fewest, lasting. */
public final class InksAndCopiesTest {
    private static final Due due = new Due("InksAndCopiesTest");

    public static void main(String[] args) {
        stays();
        cheapest();
        cheapestWrong();
        fewest();
        lasting();
        manySteps();
        lastHours();
        due.end();
    }

    private static InkHours of(String text) {
        InkHours x = new InkHours();
        due.is("text", Due.read(x, text) > 0 ? 1 : 0, 1);
        return x;
    }

    private static void stays() {
        InkHours x = of("ink 1 lasts 3;on 0 ink 1 not;on 0 a");
        due.is("20: now", x.stays(0, 0), 1);
        due.is("20: the last", x.stays(0, 2), 1);
        due.is("20: no more", x.stays(0, 3), 0);
        due.is("20: later", x.stays(0, 9999), 0);
        due.is("20: none stays", x.stays(1, 9999), 1);
        x.hours(4);
        due.is("20: from now on", x.stays(0, 23), 1);
        due.is("20: to its end", x.stays(0, 24), 0);
        due.is("20: ahead of now", x.stays(0, 3), Due.STATE);
        due.is("20: wrong", x.stays(0, -1), Due.BEYOND);
        due.is("20: wrong", x.stays(0, 10000), Due.BEYOND);
        due.is("20: wrong", x.stays(4, 9), Due.BEYOND);
        due.is("20: wrong", x.stays(-1, 9), Due.BEYOND);
        // It comes back: at 5 "a and a" of which a part is gone, at 6 the rest of that part.
        InkHours y = of("ink 1 lasts 5;ink 2 lasts 6;on 0 a;on 0 ink 1 and;on 0 ink 2 a");
        due.is("20: means a now", y.means(0, 0), Due.A);
        due.is("20: means a then", y.means(0, 6), Due.A);
        due.is("20: but not between", y.stays(0, 6), 0);
        due.is("20: until there", y.stays(0, 4), 1);
    }

    private static void cheapest() {
        InkHours x = of("ink 0 lasts 5 price 3;ink 1 lasts 10 price 4;ink 2 lasts 20 price 9;ink 3 lasts 20 price 9;ink 4 lasts 1 price 0");
        for (int i = 5; i < 8; i++) x.ink(i, 0, 1);
        x.write(0, 2, 0, 0);
        x.write(0, 1, 0, 0);
        due.is("21: for now any will do", x.cheapest(0, 0, 1, 0), 44);
        due.is("21: 5 hours", x.cheapest(0, 0, 1, 4), 0);
        due.is("21: a longer one", x.cheapest(0, 0, 1, 9), 11);
        due.is("21: of like prices the least", x.cheapest(0, 0, 1, 19), 22);
        due.is("21: the other way round", x.cheapest(0, 1, 0, 9), 11);
        due.is("21: none", x.cheapest(0, 0, 1, 20), Due.NONE);
        x.turn(0, 1, 4);
        due.is("21: a bold one needs less", x.cheapest(0, 0, 1, 9), 10);
        due.is("21: a bold one needs less", x.cheapest(0, 1, 0, 9), 1);
        due.is("21: nothing is copied", x.markOf(0, 0, 2), 0);
        x.light(0, true);
        due.is("21: in light", x.cheapest(0, 0, 1, 7), 10);
        due.is("21: in light", x.cheapest(0, 0, 1, 8), 21);
        // Marks that go together keep a meaning that one of them would spoil.
        InkHours y = of("ink 0 lasts 50 price 9;ink 1 lasts 2 price 1;ink 2 lasts 4 price 0;on 0 a and a");
        for (int i = 3; i < 8; i++) y.ink(i, 1, 50);
        due.is("21: both go at once", y.cheapest(0, 1, 2, 10), 22);
        due.is("21: the other word is left", y.cheapest(0, 0, 1, 23), 22);
        for (int i = 0; i < 8; i++) y.ink(i, 1, 99);
        due.is("21: dearest", y.cheapest(0, 0, 2, 30), 0);
        due.is("21: dearest", y.cheapest(0, 0, 2, 3), 0);
        // No meaning is one that can stay, too.
        InkHours z = of("ink 0 lasts 9;ink 1 lasts 3 price 0;on 0 a a");
        due.is("21: no meaning stays", z.cheapest(0, 0, 1, 30), 11);
    }

    private static void cheapestWrong() {
        InkHours x = of("ink 1 lasts 2;on 0 a;on 0 ink 1 and b");
        due.is("21: the same mark", x.cheapest(0, 1, 1, 0), Due.BEYOND);
        int[][] wrong = {{4, 0, 1, 0}, {-1, 0, 1, 0}, {0, -1, 1, 0}, {0, 0, 3, 0}, {0, 3, 0, 0}, {0, 0, -1, 0}, {0, 0, 1, -1}, {0, 0, 1, 201}, {1, 0, 1, 0}};
        for (int[] w : wrong) due.is("21: wrong", x.cheapest(w[0], w[1], w[2], w[3]), Due.BEYOND);
        due.is("21: 200 hours", x.cheapest(0, 0, 1, 200), Due.NONE);
        x.hours(2);
        due.is("21: the other isn't seen", x.cheapest(0, 0, 1, 0), Due.STATE);
        due.is("21: the first isn't seen", x.cheapest(0, 2, 0, 0), Due.STATE);
        due.is("21: beyond comes first", x.cheapest(0, 1, 1, 0), Due.BEYOND);
    }

    private static void fewest() {
        InkHours x = of("ink 0 lasts 5;ink 1 lasts 30;on 0 a or b and c");
        due.is("22: none need be", x.fewest(0, 1, 4), 0);
        due.is("22: all", x.fewest(0, 1, 5), 31);
        due.is("22: all", x.fewest(0, 1, 29), 31);
        due.is("22: none will do", x.fewest(0, 1, 30), Due.NONE);
        due.is("22: nor will this ink", x.fewest(0, 0, 5), Due.NONE);
        due.is("22: only now", x.fewest(0, 0, 0), 0);
        InkHours all = of("ink 0 lasts 5;ink 1 lasts 30;on 0 not a and b or not b and c and not d");
        due.is("22: all of twelve", all.fewest(0, 1, 6), 4095);
        all = of("ink 0 lasts 5;ink 1 lasts 30;on 0 not not not not not not not not not not not a");
        due.is("22: one no of eleven", all.fewest(0, 1, 6), 2049);
        InkHours y = of("ink 0 lasts 5;ink 1 lasts 30;on 0 a or a or a blot");
        due.is("22: of several the least", y.fewest(0, 1, 10), 1);
        y.hours(3);
        due.is("22: from now on", y.fewest(0, 0, 4), 1);
        due.is("22: seen no more", y.fewest(0, 0, 5), Due.NONE);
        InkHours z = of("ink 0 lasts 5;ink 1 lasts 30;ink 2 lasts 2;on 0 ink 1 a;on 0 and a");
        due.is("22: both go together", z.fewest(0, 2, 20), 0);
        InkHours w = of("ink 0 lasts 5;ink 1 lasts 6;ink 2 lasts 9;on 0 ink 2 a;on 0 and;on 0 ink 1 a");
        due.is("22: a copy may be one to go sooner", w.fewest(0, 0, 8), 4);
        due.is("22: or to stay", w.fewest(0, 1, 8), 2);
        InkHours v = of("ink 1 lasts 1;on 0 a;on 0 ink 1 and b");
        v.hours(1);
        due.is("22: gone ones don't come back", v.fewest(0, 7, 23), 1);
        due.is("22: empty", v.fewest(1, 0, 100), 0);
        int[][] wrong = {{4, 0, 0}, {-1, 0, 0}, {0, -1, 0}, {0, 8, 0}, {0, 0, -1}, {0, 0, 101}};
        for (int[] k : wrong) {
            due.is("22: wrong", v.fewest(k[0], k[1], k[2]), Due.BEYOND);
            due.is("23: wrong", v.lasting(k[0], k[1], k[2]), Due.BEYOND);
        }
    }

    /** Eleven blots go at 25 to 35 (copied at 41), a at 50 (copied at 71): more hours to look at than marks. */
    private static void manySteps() {
        InkHours x = of("ink 1 lasts 25;ink 2 lasts 30;on 0 blot blot blot blot blot blot blot blot blot blot blot;on 0 ink 1 bold a");
        for (int i = 0; i < 11; i++) {
            x.hours(1);
            x.copied(0, i, 0);
        }
        due.is("22: up to 49", x.fewest(0, 2, 38), 0);
        due.is("22: from 50 on a copy of a", x.fewest(0, 2, 39), 2048);
        due.is("22: up to 70", x.fewest(0, 2, 59), 2048);
        due.is("22: then it is gone, too", x.fewest(0, 2, 60), Due.NONE);
    }

    private static void lasting() {
        InkHours x = of("ink 0 lasts 5;ink 1 lasts 30;on 0 ink 1 a;on 0 and b");
        due.is("23: now", x.lasting(0, 0, 0), 1);
        due.is("23: longer", x.lasting(0, 0, 9), 10);
        due.is("23: longest", x.lasting(0, 0, 29), 30);
        due.is("23: the other ink goes", x.lasting(0, 0, 30), Due.NONE);
        due.is("23: the other ink", x.lasting(0, 1, 4), 5);
        due.is("23: an ink that isn't there", x.lasting(0, 7, 4), 1);
        due.is("23: an ink that isn't there", x.lasting(0, 7, 5), Due.NONE);
        due.is("23: nothing is changed", x.ink(0, 0, 5), 5);
        x.turn(0, 2, 6);
        due.is("23: by the faint one", x.lasting(0, 0, 9), 20);
        x.light(0, true);
        due.is("23: in light", x.lasting(0, 0, 9), 26);
        // a is left of "a and b" as its ink lasts now: one that lasts too long would show the rest again.
        InkHours y = of("ink 0 lasts 5;ink 1 lasts 30;on 0 ink 1 a;on 0 and b");
        y.hours(7);
        due.is("23: it is a", y.means(0, 7), Due.A);
        due.is("23: and stays so", y.lasting(0, 0, 22), 1);
        InkHours z = of("ink 0 lasts 900;on 0 a");
        for (int i = 0; i < 9; i++) z.hours(99);
        due.is("23: of old ones", z.lasting(0, 0, 100), 992);
        z.hours(8);
        z.ink(0, 0, 999);
        due.is("23: 999 will do", z.lasting(0, 0, 99), 999);
        due.is("23: 999 at most", z.lasting(0, 0, 100), Due.NONE);
    }

    private static void lastHours() {
        InkHours x = of("ink 0 lasts 999;on 0 a or b");
        for (int i = 0; i < 9; i++) x.hours(1000);
        x.hours(950);
        x.copied(0, 0, 0);
        x.copied(0, 1, 0);
        x.copied(0, 2, 0);
        due.is("21: at 9999", x.cheapest(0, 0, 1, 49), 0);
        due.is("21: above 9999", x.cheapest(0, 0, 1, 50), Due.STATE);
        due.is("22: at 9999", x.fewest(0, 0, 49), 0);
        due.is("22: above 9999", x.fewest(0, 0, 50), Due.STATE);
        due.is("23: at 9999", x.lasting(0, 0, 49), 50);
        due.is("23: above 9999", x.lasting(0, 0, 50), Due.STATE);
        due.is("20: at 9999", x.stays(0, 9999), 1);
    }
}
