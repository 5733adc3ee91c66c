/** Promises 10 to 19: seen, age, gone, means, says, until, changes, shows, often, same. */
final class EdgesOfMeanings {
    private EdgesOfMeanings() { }

    static void ask(Edges e) {
        seen(e);
        age(e);
        gone(e);
        means(e);
        says(e);
        until(e);
        changes(e);
        shows(e);
        often(e);
        same(e);
    }

    /** a, written at an HOUR in an INK that LASTS so long. */
    private static InkHours word(int at, int lasts) {
        InkHours x = Scenes.at(at);
        x.ink(0, 0, lasts);
        x.write(0, 1, 0, 0);
        return x;
    }

    private static void seen(Edges e) {
        e.promise(10, "MARKS of a PAPER that are SEEN at an HOUR, as a set.");
        e.is("of an empty one", Scenes.rich().seen(2, 20), 0);
        e.is("all twelve", Scenes.rich().seen(3, 10), 4095);
        e.is("an HOUR ahead of AT", Scenes.rich().seen(3, 9), 0);
        e.is("the last HOUR", Scenes.rich().seen(3, 33), 4095);
        e.is("the HOUR behind it", Scenes.rich().seen(3, 34), 0);
        e.is("at 0", Scenes.of("on 0 a").seen(0, 0), 1);
        e.is("at 9999", word(9999, 1).seen(0, 9999), 1);
        e.is("at 9998", word(9999, 1).seen(0, 9998), 0);
        e.asks("seen", x -> x.seen(3, 30));
        e.promise(10, "BEYOND.");
        e.range("PAPER", Scenes::rich, 0, 3, (x, v) -> x.seen(v, 20));
        e.range("HOUR", Scenes::rich, 0, 9999, (x, v) -> x.seen(0, v));
    }

    private static void age(Edges e) {
        e.promise(11, "AGE of a MARK at an HOUR.");
        e.is("at AT", Scenes.rich().age(0, 0, 10), 0);
        e.is("NOW", Scenes.rich().age(0, 5, 20), 10);
        e.is("at 9999", Scenes.rich().age(0, 0, 9999), 9989);
        e.is("in LIGHT, at 9999", Scenes.rich().age(1, 0, 9999), 14968);
        e.is("it goes on when it is GONE", Scenes.rich().age(3, 0, 34), 24);
        e.asks("age", x -> x.age(3, 2, 30));
        e.promise(11, "BEYOND.");
        e.range("PAPER", Scenes::rich, 0, 3, (x, v) -> x.age(v == 2 ? 0 : v, 0, 20));
        e.range("MARK of six", Scenes::rich, 0, 5, (x, v) -> x.age(0, v, 20));
        e.range("MARK of twelve", Scenes::rich, 0, 11, (x, v) -> x.age(3, v, 20));
        e.refuses("an empty PAPER has none", Scenes::rich, Due.BEYOND, x -> x.age(2, 0, 20));
        e.range("HOUR", Scenes::rich, 0, 9999, (x, v) -> x.age(0, 0, v));
        e.promise(11, "STATE: that is ahead of AT.");
        e.refuses("an HOUR ahead", Scenes::rich, Due.STATE, x -> x.age(0, 0, 9));
        e.refuses("at 0", Scenes::rich, Due.STATE, x -> x.age(0, 0, 0));
        e.refuses("in LIGHT", Scenes::rich, Due.STATE, x -> x.age(1, 1, 19));
        e.is("at AT it isn't", Scenes.rich().age(1, 1, 20), 0);
    }

    private static void gone(Edges e) {
        e.promise(12, "The first HOUR at which a MARK is GONE.");
        e.is("LASTS 1", word(0, 1).gone(0, 0), 1);
        e.is("LASTS 999", word(0, 999).gone(0, 0), 999);
        e.is("one that is GONE", Scenes.rich().gone(3, 0), 34);
        InkHours x = word(0, 6);
        x.light(0, true);
        e.is("in LIGHT: ahead of the day", x.gone(0, 0), 6);
        x.ink(0, 0, 7);
        e.is("in LIGHT: an HOUR of the day", x.gone(0, 0), 7);
        x.ink(0, 0, 30);
        e.is("in LIGHT: all the day", x.gone(0, 0), 18);
        x.ink(0, 0, 31);
        e.is("in LIGHT: an HOUR of the night", x.gone(0, 0), 19);
        x.ink(0, 0, 36);
        e.is("in LIGHT: a day and a night", x.gone(0, 0), 24);
        e.asks("gone", y -> y.gone(3, 2));
        e.promise(12, "BEYOND.");
        e.range("PAPER", Scenes::rich, 0, 3, (y, v) -> y.gone(v == 2 ? 0 : v, 0));
        e.range("MARK of six", Scenes::rich, 0, 5, (y, v) -> y.gone(0, v));
        e.range("MARK of twelve", Scenes::rich, 0, 11, (y, v) -> y.gone(3, v));
        e.refuses("an empty PAPER has none", Scenes::rich, Due.BEYOND, y -> y.gone(2, 0));
        e.promise(12, "NONE: not by 9999.");
        e.is("at 9999", word(9000, 999).gone(0, 0), 9999);
        e.refuses("it would be 10000", () -> word(9001, 999), Due.NONE, y -> y.gone(0, 0));
        e.is("at 9999", word(9998, 1).gone(0, 0), 9999);
        e.refuses("it would be 10000", () -> word(9999, 1), Due.NONE, y -> y.gone(0, 0));
    }

    private static void means(Edges e) {
        e.promise(13, "MEANING of a PAPER at an HOUR.");
        e.is("of an empty one", Scenes.rich().means(2, 20), -1);
        e.is("of six MARKS", Scenes.rich().means(0, 20), Due.A & Due.B | Due.ALL ^ Due.C);
        e.is("ahead of them", Scenes.rich().means(0, 9), -1);
        e.is("of twelve", Scenes.rich().means(3, 33), Due.ALL ^ Due.D);
        e.is("behind them", Scenes.rich().means(3, 34), -1);
        e.is("at 9999", word(9999, 1).means(0, 9999), Due.A);
        e.asks("means", x -> x.means(3, 40));
        e.promise(13, "BEYOND.");
        e.range("PAPER", Scenes::rich, 0, 3, (x, v) -> x.means(v, 20));
        e.range("HOUR", Scenes::rich, 0, 9999, (x, v) -> x.means(0, v));
    }

    private static void says(Edges e) {
        e.promise(14, "Whether a PAPER is true by a TRUTH at an HOUR: 1, 0.");
        InkHours x = Scenes.of("on 0 a and b and c and d;on 1 not a and not b and not c and not d");
        for (int truth = 0; truth < 16; truth++) {
            e.is("by " + truth + ", all", x.says(0, 0, truth), truth == 15 ? 1 : 0);
            e.is("by " + truth + ", none", x.says(1, 0, truth), truth == 0 ? 1 : 0);
        }
        e.asks("says", y -> y.says(3, 30, 3));
        e.promise(14, "BEYOND.");
        e.range("PAPER", Scenes::rich, 0, 3, (y, v) -> y.says(v, 20, 1));
        e.range("HOUR", Scenes::rich, 0, 9999, (y, v) -> y.says(0, v, 1));
        e.range("TRUTH", Scenes::rich, 0, 15, (y, v) -> y.says(0, 20, v));
        e.promise(14, "NONE: it has no MEANING then.");
        e.is("its last HOUR with one", Scenes.rich().says(3, 33, 0), 1);
        e.refuses("the HOUR behind", Scenes::rich, Due.NONE, y -> y.says(3, 34, 0));
        e.refuses("the HOUR ahead of AT", Scenes::rich, Due.NONE, y -> y.says(3, 9, 0));
        e.refuses("an empty PAPER", Scenes::rich, Due.NONE, y -> y.says(2, 20, 15));
        e.is("a MEANING that is never true is one", Scenes.of("on 0 a and not a").says(0, 0, 3), 0);
    }

    private static void until(Edges e) {
        e.promise(15, "The first HOUR behind NOW, up to 9999, at which a PAPER has another MEANING than NOW.");
        e.is("the HOUR behind NOW", word(0, 1).until(0), 1);
        e.is("at 9999", word(9000, 999).until(0), 9999);
        e.is("at 9999, NOW is 9998", word(9998, 1).until(0), 9999);
        e.is("NOW isn't ahead of NOW", word(20, 5).until(0), 25);
        InkHours x = Scenes.of("ink 1 lasts 3;on 0 a;on 0 ink 1 and a");
        e.is("a like MEANING of other MARKS is no other", x.until(0), 24);
        x.hours(24);
        e.is("from none to none", x.until(0), Due.NONE);
        e.asks("until", y -> y.until(3));
        e.promise(15, "BEYOND.");
        e.range("PAPER", () -> word(0, 1), 0, 3, InkHours::until);
        e.promise(15, "NONE.");
        e.refuses("it would be 10000", () -> word(9001, 999), Due.NONE, y -> y.until(0));
        e.refuses("NOW is 9999", () -> word(9999, 1), Due.NONE, y -> y.until(0));
        e.refuses("an empty PAPER", Scenes::rich, Due.NONE, y -> y.until(2));
    }

    private static void changes(Edges e) {
        e.promise(16, "At how many HOURS from one on up to another one (behind it) a PAPER has another MEANING than the HOUR ahead.");
        // It comes at 5 and goes at 10.
        InkHours x = word(5, 5);
        int[][] calls = {{0, 4, 0}, {0, 5, 1}, {4, 5, 1}, {5, 6, 1}, {6, 7, 0}, {6, 9, 0}, {6, 10, 1}, {9, 10, 1}, {10, 11, 1}, {11, 12, 0},
            {5, 10, 2}, {4, 9, 1}, {0, 9999, 2}, {10, 9999, 1}, {11, 9999, 0}, {9998, 9999, 0}};
        for (int[] c : calls) e.is("changes(0, " + c[0] + ", " + c[1] + ")", x.changes(0, c[0], c[1]), c[2]);
        e.is("no HOUR is ahead of 0", word(0, 1).changes(0, 0, 1), 1);
        e.is("at 0 there is one from the begin", word(0, 2).changes(0, 0, 1), 0);
        e.is("at 9999 it comes", word(9999, 1).changes(0, 0, 9999), 1);
        e.is("at 9999 it goes", word(9998, 1).changes(0, 9999 - 1, 9999), 2);
        e.is("at 10000 it would go", word(9999, 1).changes(0, 9998, 9999), 1);
        e.is("an empty PAPER", new InkHours().changes(0, 0, 9999), 0);
        e.is("a like MEANING of other MARKS", Scenes.of("ink 1 lasts 3;on 0 a;on 0 ink 1 and a").changes(0, 1, 23), 0);
        e.asks("changes", y -> y.changes(0, 0, 9999));
        e.promise(16, "BEYOND: also if the second one isn't behind the first one.");
        e.range("PAPER", Scenes::rich, 0, 3, (y, v) -> y.changes(v, 0, 9999));
        e.range("the first HOUR, the second is 9999", Scenes::rich, 0, 9998, (y, v) -> y.changes(0, v, 9999));
        e.range("the second HOUR, the first is 0", Scenes::rich, 1, 9999, (y, v) -> y.changes(0, 0, v));
        e.range("the second HOUR, the first is 500", Scenes::rich, 501, 9999, (y, v) -> y.changes(0, 500, v));
        e.range("the first HOUR, the second is 500", Scenes::rich, 0, 499, (y, v) -> y.changes(0, v, 500));
        e.refuses("both are 9999", Scenes::rich, Due.BEYOND, y -> y.changes(0, 9999, 9999));
        e.refuses("from 9999 to 10000", Scenes::rich, Due.BEYOND, y -> y.changes(0, 9999, 10000));
    }

    private static void shows(Edges e) {
        e.promise(17, "The first HOUR from NOW on at which a PAPER has a MEANING (-1 to 65535).");
        e.is("NOW", word(5, 5).shows(0, Due.A), 5);
        e.is("when it is gone", word(5, 5).shows(0, -1), 10);
        e.is("not ahead of NOW", word(5, 5).shows(1, -1), 5);
        e.is("at 9999", word(9000, 999).shows(0, -1), 9999);
        e.is("NOW is 9999", word(9999, 1).shows(0, Due.A), 9999);
        e.is("MEANING 0", Scenes.of("on 0 a and not a").shows(0, 0), 0);
        e.is("MEANING 65535", Scenes.of("on 0 a or not a").shows(0, 65535), 0);
        e.asks("shows", x -> x.shows(3, -1));
        e.promise(17, "BEYOND.");
        e.range("PAPER", Scenes::rich, 0, 3, (x, v) -> x.shows(v, -1));
        e.range("MEANING", Scenes::rich, -1, 65535, (x, v) -> x.shows(0, v));
        e.promise(17, "NONE.");
        e.refuses("at 10000 it would", () -> word(9001, 999), Due.NONE, x -> x.shows(0, -1));
        e.refuses("never", Scenes::rich, Due.NONE, x -> x.shows(0, 65535));
        e.refuses("it was so ahead of NOW alone", Scenes::rich, Due.NONE, x -> x.shows(2, Due.A));
        e.refuses("an empty PAPER", Scenes::rich, Due.NONE, x -> x.shows(2, 0));
    }

    private static void often(Edges e) {
        e.promise(18, "At how many HOURS from NOW on, 9999 at most, a PAPER has a MEANING.");
        e.is("NOW counts", word(5, 1).often(0, Due.A), 1);
        e.is("five", word(5, 5).often(0, Due.A), 5);
        e.is("what is ahead of NOW doesn't", word(5, 5).often(1, -1), 9995);
        e.is("from 10 on, 9999 too", word(5, 5).often(0, -1), 9990);
        e.is("9999 alone", word(9000, 999).often(0, -1), 1);
        e.is("10000 doesn't count", word(9001, 999).often(0, -1), 0);
        e.is("up to 9999", word(9001, 999).often(0, Due.A), 999);
        e.is("NOW is 9999", word(9999, 999).often(0, Due.A), 1);
        e.is("all HOURS", new InkHours().often(0, -1), 10000);
        e.is("never", Scenes.rich().often(0, 0), 0);
        // It means a at 0 to 4, nothing at 5, and a again from 6 up to 23.
        InkHours twice = Scenes.of("ink 1 lasts 5;ink 2 lasts 6;on 0 a;on 0 ink 1 and;on 0 ink 2 a");
        e.is("two times", twice.often(0, Due.A), 23);
        e.is("none, two times", twice.often(0, -1), 9977);
        e.asks("often", x -> x.often(0, -1));
        e.promise(18, "BEYOND.");
        e.range("PAPER", Scenes::rich, 0, 3, (x, v) -> x.often(v, -1));
        e.range("MEANING", Scenes::rich, -1, 65535, (x, v) -> x.often(0, v));
    }

    private static void same(Edges e) {
        e.promise(19, "Whether two PAPERS have a like MEANING at an HOUR (both none, too): 1, 0.");
        InkHours x = Scenes.of("ink 1 lasts 5;on 0 a or b;on 1 ink 1 b or a;on 2 a;on 3 a a");
        e.is("like", x.same(0, 1, 0), 1);
        e.is("the last HOUR at which it is like", x.same(0, 1, 4), 1);
        e.is("one has none", x.same(0, 1, 5), 0);
        e.is("one has none", x.same(1, 0, 5), 0);
        e.is("unlike", x.same(0, 2, 0), 0);
        e.is("both none: one isn't a sentence, of one all is gone", x.same(1, 3, 5), 1);
        e.is("both none, all is gone", x.same(0, 2, 9999), 1);
        e.is("a PAPER and itself", x.same(2, 2, 0), 1);
        e.asks("same", y -> y.same(0, 3, 30));
        e.promise(19, "BEYOND.");
        e.range("the one", Scenes::rich, 0, 3, (y, v) -> y.same(v, 0, 20));
        e.range("the other", Scenes::rich, 0, 3, (y, v) -> y.same(0, v, 20));
        e.range("HOUR", Scenes::rich, 0, 9999, (y, v) -> y.same(0, 1, v));
    }
}
