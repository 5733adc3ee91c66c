/** Promises 20 to 23: stays, cheapest, fewest, lasting. */
final class EdgesOfInksAndCopies {
    private EdgesOfInksAndCopies() { }

    static void ask(Edges e) {
        stays(e);
        cheapest(e);
        cheapestRefused(e);
        fewest(e);
        fewestRefused(e);
        lasting(e);
        lastingRefused(e);
    }

    /** The rich one when all on PAPER 3 is GONE: NOW is 34. */
    private static InkHours later() {
        InkHours x = Scenes.rich();
        x.hours(14);
        return x;
    }

    /** a and b on PAPER 0 and nothing on the others, COPIED in INK 0 (LASTS 999) at an HOUR that is NOW. */
    private static InkHours lateAt(int hour) {
        InkHours x = Scenes.at(hour);
        x.ink(0, 0, 999);
        return Scenes.read(x, "on 0 a and b");
    }

    private static void stays(Edges e) {
        e.promise(20, "Whether the MEANING of a PAPER STAYS up to an HOUR: 1, 0.");
        e.is("up to NOW", Scenes.rich().stays(3, 20), 1);
        e.is("up to its last HOUR", Scenes.rich().stays(3, 33), 1);
        e.is("up to the HOUR at which it is another one", Scenes.rich().stays(3, 34), 0);
        e.is("none is one that can stay, too", Scenes.rich().stays(2, 9999), 1);
        e.is("up to 9999", lateAt(9001).stays(0, 9999), 1);
        e.is("not up to 9999", lateAt(9000).stays(0, 9999), 0);
        e.is("but up to 9998", lateAt(9000).stays(0, 9998), 1);
        e.asks("stays", x -> x.stays(3, 34));
        e.promise(20, "BEYOND.");
        e.range("PAPER", Scenes::rich, 0, 3, (x, v) -> x.stays(v, 20));
        e.range("HOUR", Scenes::rich, 0, 9999, (x, v) -> x.stays(0, v));
        e.promise(20, "STATE: the HOUR is ahead of NOW.");
        e.refuses("an HOUR ahead", Scenes::rich, Due.STATE, x -> x.stays(0, 19));
        e.refuses("0", Scenes::rich, Due.STATE, x -> x.stays(0, 0));
        e.is("NOW isn't", Scenes.rich().stays(0, 20), 1);
    }

    private static void cheapest(Edges e) {
        e.promise(21, "The cheapest two INKS (PRICES together) in which two unlike MARKS would have to be COPIED NOW, so that the MEANING that there is NOW "
            + "STAYS up to n (0 to 200) HOURS behind NOW:");
        e.is("n 0: any would do", Scenes.rich().cheapest(0, 0, 2, 0), 0);
        e.is("n 23: 24 HOURS would do", Scenes.rich().cheapest(0, 0, 2, 23), 0);
        e.is("n 24: they don't", Scenes.rich().cheapest(0, 0, 2, 24), 22);
        e.is("n 200", Scenes.rich().cheapest(0, 0, 2, 200), 22);
        InkHours x = Scenes.of("ink 0 lasts 201;ink 1 lasts 200;on 0 a and b");
        e.is("n 10", x.cheapest(0, 0, 2, 10), 0);
        x.ink(1, 1, 0);
        x.copied(0, 1, 0);
        e.is("n 200: it LASTS 201", x.cheapest(0, 0, 2, 200), 0);
        e.is("n 199: one of 200 would do, and is cheaper", x.cheapest(0, 0, 2, 199), 11);
        InkHours y = Scenes.of("ink 0 lasts 50 price 99;ink 1 lasts 60 price 98;on 0 a b");
        for (int i = 2; i < 8; i++) y.ink(i, 1, 99);
        e.is("PRICES together, 196 at least", y.cheapest(0, 0, 1, 0), 11);
        for (int i = 0; i < 8; i++) y.ink(i, 1, 99);
        e.is("PRICES together, 198", y.cheapest(0, 0, 1, 0), 0);
        for (int i = 0; i < 8; i++) y.ink(i, 1, 0);
        e.is("PRICES together, 0", y.cheapest(0, 0, 1, 0), 0);
        e.is("nothing was COPIED", y.count(0) + y.markOf(0, 0, 2) + y.markOf(0, 1, 2), 0);
        e.asks("cheapest", z -> z.cheapest(0, 0, 2, 200));
        e.promise(21, "10 times that of the first one, and that of the other;");
        InkHours z = Scenes.of("ink 3 lasts 40;ink 5 lasts 20;on 0 ink 3 not bold a");
        for (int i = 0; i < 8; i++) if (i != 3 && i != 5) z.ink(i, 1, 50);
        z.ink(3, 1, 9);
        e.is("the NO first", z.cheapest(0, 0, 1, 39), 35);
        e.is("the letter first", z.cheapest(0, 1, 0, 39), 53);
        z.ink(7, 0, 999);
        z.ink(7, 1, 0);
        e.is("both in the last INK", z.cheapest(0, 1, 0, 200), 77);
        e.promise(21, "of several the least.");
        InkHours w = Scenes.of("ink 6 lasts 99;ink 7 lasts 99;on 0 not a");
        e.is("of 66, 67, 76, 77", w.cheapest(0, 0, 1, 98), 66);
        w.ink(6, 1, 2);
        e.is("the cheapest one ahead of the least", w.cheapest(0, 0, 1, 98), 77);
        InkHours v = Scenes.of("ink 6 lasts 99 price 9;ink 7 lasts 99 price 1;on 0 ink 7 not bold a");
        v.ink(0, 0, 50);
        v.ink(0, 1, 1);
        e.is("of 70 and 77", v.cheapest(0, 0, 1, 98), 70);
    }

    private static void cheapestRefused(Edges e) {
        e.promise(21, "BEYOND.");
        e.range("PAPER", Scenes::rich, 0, 3, (x, v) -> x.cheapest(v == 2 ? 0 : v, 0, 1, 0));
        e.range("the one, the other is 5", Scenes::rich, 0, 4, (x, v) -> x.cheapest(0, v, 5, 0));
        e.range("the one of six", Scenes::rich, 1, 5, (x, v) -> x.cheapest(0, v, 0, 0));
        e.range("the other of six", Scenes::rich, 1, 5, (x, v) -> x.cheapest(0, 0, v, 0));
        e.range("the one of twelve", Scenes::rich, 1, 11, (x, v) -> x.cheapest(3, v, 0, 0));
        e.range("the other of twelve", Scenes::rich, 0, 10, (x, v) -> x.cheapest(3, 11, v, 0));
        e.refuses("an empty PAPER has none", Scenes::rich, Due.BEYOND, x -> x.cheapest(2, 0, 1, 0));
        e.refuses("they are no two unlike ones", Scenes::rich, Due.BEYOND, x -> x.cheapest(0, 3, 3, 0));
        e.range("n", Scenes::rich, 0, 200, (x, v) -> x.cheapest(0, 0, 2, v));
        e.promise(21, "STATE: one of both isn't SEEN NOW, or that HOUR is above 9999.");
        e.refuses("both are GONE", EdgesOfInksAndCopies::later, Due.STATE, x -> x.cheapest(3, 0, 1, 0));
        Edges.Made half = () -> {
            InkHours made = later();
            made.copied(3, 11, 0);
            return made;
        };
        e.refuses("the first is GONE", half, Due.STATE, x -> x.cheapest(3, 10, 11, 0));
        e.refuses("the other is GONE", half, Due.STATE, x -> x.cheapest(3, 11, 10, 0));
        InkHours x = Scenes.rich();
        x.hours(13);
        e.is("the last HOUR at which they are SEEN", x.cheapest(3, 0, 1, 0), 0);
        e.is("9999", lateAt(9799).cheapest(0, 0, 1, 200), 0);
        e.refuses("10000", () -> lateAt(9800), Due.STATE, y -> y.cheapest(0, 0, 1, 200));
        e.is("9999 is NOW", lateAt(9999).cheapest(0, 0, 1, 0), 0);
        e.refuses("10000", () -> lateAt(9999), Due.STATE, y -> y.cheapest(0, 0, 1, 1));
        e.promise(21, "NONE.");
        e.is("the others stay up to there", Scenes.rich().cheapest(3, 0, 1, 13), 0);
        e.refuses("the others go", Scenes::rich, Due.NONE, y -> y.cheapest(3, 0, 1, 14));
        e.is("the longest INK LASTS 24", Scenes.of("on 0 not a").cheapest(0, 0, 1, 23), 0);
        e.refuses("no INK LASTS 25", () -> Scenes.of("on 0 not a"), Due.NONE, y -> y.cheapest(0, 0, 1, 24));
    }

    private static void fewest(Edges e) {
        e.promise(22, "The fewest MARKS that are SEEN NOW that would have to be COPIED NOW in an INK so that the MEANING that there is NOW "
            + "STAYS up to n (0 to 100) HOURS behind NOW, as a set;");
        e.is("an empty PAPER: none", Scenes.rich().fewest(2, 0, 100), 0);
        e.is("n 100, it STAYS: none", Scenes.rich().fewest(0, 0, 100), 0);
        e.is("n 0: none", Scenes.rich().fewest(3, 0, 0), 0);
        e.is("n 13, it STAYS: none", Scenes.rich().fewest(3, 0, 13), 0);
        e.is("n 14: not and d", Scenes.rich().fewest(3, 0, 14), 3072);
        e.is("n 23, an INK of 24", Scenes.rich().fewest(3, 0, 23), 3072);
        e.is("n 59, one of 60", Scenes.rich().fewest(3, 1, 59), 3072);
        e.is("n 100, one of 300", Scenes.rich().fewest(3, 2, 100), 3072);
        e.is("all twelve", Scenes.of("ink 1 lasts 90;on 0 not a and b or not b and c and not d").fewest(0, 1, 24), 4095);
        InkHours x = Scenes.of("ink 1 lasts 5;on 0 a;on 0 ink 1 and b");
        x.hours(5);
        e.is("a alone is SEEN NOW, and is left", x.fewest(0, 2, 23), 1);
        x = Scenes.rich();
        e.is("n 23", x.fewest(3, 0, 23), 3072);
        e.is("n 13, asked behind it", x.fewest(3, 0, 13), 0);
        // The NO goes at 5, a at 10.
        e.is("they go apart", Scenes.of("ink 1 lasts 5;ink 2 lasts 10;on 0 ink 1 not;on 0 ink 2 a").fewest(0, 0, 20), 3);
        e.asks("fewest", y -> y.fewest(3, 0, 23));
        e.promise(22, "of several the least.");
        e.is("of 1, 4, 16", Scenes.of("ink 1 lasts 90;on 0 a or a or a").fewest(0, 1, 80), 1);
        e.is("of 6, 34, 36, 48 and more", Scenes.of("ink 1 lasts 90;on 0 blot not a and not a").fewest(0, 1, 80), 6);
    }

    private static void fewestRefused(Edges e) {
        e.promise(22, "BEYOND.");
        e.range("PAPER", Scenes::rich, 0, 3, (x, v) -> x.fewest(v, 2, 20));
        e.range("INK", Scenes::rich, 0, 7, (x, v) -> x.fewest(3, v, 20));
        e.range("n", Scenes::rich, 0, 100, (x, v) -> x.fewest(0, 2, v));
        e.promise(22, "STATE: that HOUR is above 9999.");
        e.is("9999", lateAt(9899).fewest(0, 0, 100), 0);
        e.refuses("10000", () -> lateAt(9900), Due.STATE, x -> x.fewest(0, 0, 100));
        e.is("9999 is NOW", lateAt(9999).fewest(0, 0, 0), 0);
        e.refuses("10000", () -> lateAt(9999), Due.STATE, x -> x.fewest(0, 0, 1));
        e.refuses("of an empty PAPER, too", () -> lateAt(9999), Due.STATE, x -> x.fewest(1, 0, 1));
        e.promise(22, "NONE.");
        e.refuses("n 24, an INK of 24", Scenes::rich, Due.NONE, x -> x.fewest(3, 0, 24));
        e.refuses("n 60, one of 60", Scenes::rich, Due.NONE, x -> x.fewest(3, 1, 60));
        e.refuses("only from 22 up to 23 b isn't there and a is", EdgesOfInksAndCopies::fifteenHours, Due.NONE, x -> x.fewest(0, 4, 100));
    }

    /**
     * NOW is 14, a b means nothing. MARKS go at 24 to 33 (ten blots), 23 (a) and 44 (b); copies in INK 4 at 18 (blots), 16 (a) and 22 (b):
     * as many unlike HOURS as there can be.
     */
    private static InkHours fifteenHours() {
        InkHours x = Scenes.of("ink 1 lasts 18;ink 2 lasts 15;ink 4 lasts 4");
        for (int i = 0; i < 10; i++) {
            x.write(0, 0, 0, 0);
            x.hours(1);
        }
        x.hours(4);
        return Scenes.read(x, "on 0 ink 1 faint a;on 0 ink 2 bold b");
    }

    private static void lasting(Edges e) {
        e.promise(23, "The least LASTS (1 to 999) of an INK with which a PAPER has the MEANING that it has NOW (as that INK LASTS now) "
            + "at all HOURS from NOW up to n (0 to 100) behind it.");
        e.is("n 0: it is SEEN NOW", Scenes.rich().lasting(3, 0, 0), 11);
        e.is("n 13", Scenes.rich().lasting(3, 0, 13), 24);
        e.is("n 100", Scenes.rich().lasting(3, 0, 100), 111);
        e.is("an INK that isn't there: 1", Scenes.rich().lasting(3, 7, 13), 1);
        e.is("an empty PAPER: 1", Scenes.rich().lasting(2, 0, 100), 1);
        e.is("the INK LASTS as it did", lastsAfter(), 24);
        e.asks("lasting", z -> z.lasting(3, 0, 100));
        InkHours x = Scenes.of("ink 0 lasts 999;on 0 a");
        x.hours(899);
        e.is("999", x.lasting(0, 0, 99), 999);
        // a is left of a and b: longer than 7 "and b" would be SEEN again.
        InkHours y = Scenes.of("ink 1 lasts 5;on 0 a;on 0 ink 1 and b");
        y.hours(7);
        e.is("as it LASTS now it means a", y.means(0, 7), Due.A);
        e.is("1 keeps it so", y.lasting(0, 1, 16), 1);
        y.ink(1, 0, 20);
        e.is("as it LASTS now it means a and b", y.lasting(0, 1, 16), 24);
    }

    private static int lastsAfter() {
        InkHours x = Scenes.rich();
        x.lasting(3, 0, 100);
        return x.ink(0, 0, 1);
    }

    private static void lastingRefused(Edges e) {
        e.promise(23, "BEYOND.");
        e.range("PAPER", Scenes::rich, 0, 3, (x, v) -> x.lasting(v, 2, 10));
        e.range("INK", Scenes::rich, 0, 7, (x, v) -> x.lasting(0, v, 10));
        e.range("n", Scenes::rich, 0, 100, (x, v) -> x.lasting(0, 2, v));
        e.promise(23, "STATE likewise.");
        e.is("9999", lateAt(9899).lasting(0, 0, 100), 101);
        e.refuses("10000", () -> lateAt(9900), Due.STATE, x -> x.lasting(0, 0, 100));
        e.is("9999 is NOW", lateAt(9999).lasting(0, 0, 0), 1);
        e.refuses("10000", () -> lateAt(9999), Due.STATE, x -> x.lasting(0, 0, 1));
        e.refuses("of an empty PAPER, too", () -> lateAt(9999), Due.STATE, x -> x.lasting(1, 0, 1));
        e.promise(23, "NONE.");
        Edges.Made old = () -> {
            InkHours x = Scenes.of("ink 0 lasts 999;on 0 a");
            x.hours(899);
            return x;
        };
        e.refuses("1000 would do", old, Due.NONE, x -> x.lasting(0, 0, 100));
        e.refuses("another INK goes", Scenes::rich, Due.NONE, x -> x.lasting(3, 7, 14));
    }
}
