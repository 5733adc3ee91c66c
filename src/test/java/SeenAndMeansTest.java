/** Promises 10 to 19: seen, age, gone, means, says, until, changes, shows, often, same. */
public final class SeenAndMeansTest {
    private static final Due due = new Due("SeenAndMeansTest");

    public static void main(String[] args) {
        seen();
        age();
        gone();
        means();
        says();
        until();
        changes();
        showsAndOften();
        same();
        due.end();
    }

    private static void seen() {
        InkHours x = new InkHours();
        x.hours(10);
        due.is("10: text", Due.read(x, "ink 0 lasts 4;on 0 a bold b faint c blot"), 2);
        due.is("10: ahead of AT", x.seen(0, 9), 0);
        due.is("10: at AT", x.seen(0, 10), 15);
        due.is("10: faint one", x.seen(0, 11), 15);
        due.is("10: faint one is gone", x.seen(0, 12), 11);
        due.is("10: word", x.seen(0, 13), 11);
        due.is("10: only bold", x.seen(0, 14), 2);
        due.is("10: bold", x.seen(0, 17), 2);
        due.is("10: none", x.seen(0, 18), 0);
        due.is("10: last hour", x.seen(0, 9999), 0);
        x.light(0, true);
        due.is("10: in light", x.seen(0, 11), 11);
        due.is("10: in light", x.seen(0, 12), 2);
        due.is("10: wrong", x.seen(4, 0), Due.BEYOND);
        due.is("10: wrong", x.seen(-1, 0), Due.BEYOND);
        due.is("10: wrong", x.seen(0, -1), Due.BEYOND);
        due.is("10: wrong", x.seen(0, 10000), Due.BEYOND);
    }

    private static void age() {
        InkHours x = new InkHours();
        x.hours(5);
        x.write(0, 1, 0, 0);
        due.is("11: at AT", x.age(0, 0, 5), 0);
        due.is("11: dark", x.age(0, 0, 105), 100);
        due.is("11: ahead of AT", x.age(0, 0, 4), Due.STATE);
        x.light(0, true);
        due.is("11: at AT in light", x.age(0, 0, 5), 0);
        due.is("11: hour 5 counts once", x.age(0, 0, 6), 1);
        due.is("11: hour 6 counts twice", x.age(0, 0, 7), 3);
        due.is("11: hour 17 counts twice", x.age(0, 0, 18), 25);
        due.is("11: hour 18 counts once", x.age(0, 0, 19), 26);
        due.is("11: a day", x.age(0, 0, 29), 36);
        due.is("11: the last hour", x.age(0, 0, 9999), 14995);
        due.is("11: wrong", x.age(0, 0, -1), Due.BEYOND);
        due.is("11: wrong", x.age(0, 0, 10000), Due.BEYOND);
        due.is("11: wrong", x.age(0, 1, 0), Due.BEYOND);
        due.is("11: wrong", x.age(0, -1, 0), Due.BEYOND);
        due.is("11: wrong", x.age(4, 0, 0), Due.BEYOND);
    }

    private static void gone() {
        InkHours x = new InkHours();
        x.ink(0, 0, 8);
        x.write(0, 1, 0, 0);
        x.write(0, 4, 0, 0);
        due.is("12: gone", x.gone(0, 0), 8);
        due.is("12: bold", x.gone(0, 1), 16);
        x.light(0, true);
        due.is("12: in light", x.gone(0, 0), 7);
        due.is("12: bold in light", x.gone(0, 1), 11);
        due.is("12: wrong", x.gone(0, 2), Due.BEYOND);
        due.is("12: wrong", x.gone(0, -1), Due.BEYOND);
        due.is("12: wrong", x.gone(4, 0), Due.BEYOND);
        for (int i = 0; i < 9; i++) x.hours(1000);
        x.ink(1, 0, 999);
        x.write(1, 1, 0, 1);
        due.is("12: at 9999", x.gone(1, 0), 9999);
        x.hours(1);
        x.copied(1, 0, 1);
        due.is("12: not by 9999", x.gone(1, 0), Due.NONE);
    }

    private static int meaning(String marks) {
        InkHours x = new InkHours();
        Due.read(x, "on 0 ".concat(marks));
        return x.means(0, 0);
    }

    private static void means() {
        due.is("13: a", meaning("a"), Due.A);
        due.is("13: b", meaning("b"), Due.B);
        due.is("13: c", meaning("bold c"), Due.C);
        due.is("13: d", meaning("faint d"), Due.D);
        due.is("13: not", meaning("not a"), Due.ALL ^ Due.A);
        due.is("13: not not", meaning("not not a"), Due.A);
        due.is("13: and", meaning("a and b"), Due.A & Due.B);
        due.is("13: or", meaning("a or b"), Due.A | Due.B);
        due.is("13: and binds first", meaning("a or b and c"), Due.A | Due.B & Due.C);
        due.is("13: and binds first", meaning("a and b or c"), Due.A & Due.B | Due.C);
        due.is("13: not binds first", meaning("not a and not b or not c and d"), ~Due.A & ~Due.B & Due.ALL | ~Due.C & Due.D);
        due.is("13: never", meaning("a and not a"), 0);
        due.is("13: ever", meaning("a or not a"), Due.ALL);
        due.is("13: blots do not count", meaning("blot a blot and blot b blot"), Due.A & Due.B);
        String[] none = {"blot", "not", "and", "or", "a b", "a not", "a and", "and a", "a or", "or a", "a and or b", "a not b", "not", "not and a",
            "a and and b", "a or or b", "bold a faint a", "a and not"};
        for (String s : none) due.is("13: ".concat(s), meaning(s), -1);
        InkHours x = new InkHours();
        due.is("13: nothing", x.means(0, 0), -1);
        Due.read(x, "ink 1 lasts 3;on 0 ink 1 not;on 0 a");
        due.is("13: not a", x.means(0, 2), Due.ALL ^ Due.A);
        due.is("13: the no is gone", x.means(0, 3), Due.A);
        due.is("13: all gone", x.means(0, 24), -1);
        due.is("13: wrong", x.means(4, 0), Due.BEYOND);
        due.is("13: wrong", x.means(-1, 0), Due.BEYOND);
        due.is("13: wrong", x.means(0, -1), Due.BEYOND);
        due.is("13: wrong", x.means(0, 10000), Due.BEYOND);
    }

    private static void says() {
        InkHours x = new InkHours();
        Due.read(x, "on 0 a and not b");
        for (int truth = 0; truth < 16; truth++) due.is("14: truth " + truth, x.says(0, 0, truth), (truth & 3) == 1 ? 1 : 0);
        due.is("14: no meaning", x.says(0, 24, 1), Due.NONE);
        due.is("14: no meaning", x.says(1, 0, 1), Due.NONE);
        due.is("14: wrong comes first", x.says(1, 0, 16), Due.BEYOND);
        due.is("14: wrong", x.says(0, 0, -1), Due.BEYOND);
        due.is("14: wrong", x.says(4, 0, 0), Due.BEYOND);
        due.is("14: wrong", x.says(0, 10000, 0), Due.BEYOND);
        due.is("14: wrong", x.says(0, -1, 0), Due.BEYOND);
    }

    /** From 10 on: not a; from 13 on a; from 34 on none. */
    private static InkHours fading() {
        InkHours x = new InkHours();
        x.hours(10);
        Due.read(x, "ink 1 lasts 3;on 0 ink 1 not;on 0 a");
        return x;
    }

    /** At 1 a comes, at 2 to 12 eleven noes that go at 26 to 36; a goes at 101: the most changes that there can be. */
    private static InkHours flickering() {
        InkHours x = new InkHours();
        x.hours(1);
        Due.read(x, "ink 1 lasts 100;on 0 not not not not not not not not not not not;on 0 ink 1 a");
        for (int i = 0; i < 11; i++) {
            x.hours(1);
            x.copied(0, i, 0);
        }
        return x;
    }

    private static void until() {
        InkHours x = fading();
        due.is("15: until", x.until(0), 13);
        x.hours(2);
        due.is("15: an hour ahead", x.until(0), 13);
        x.hours(1);
        due.is("15: the next change", x.until(0), 34);
        x.hours(21);
        due.is("15: no more", x.until(0), Due.NONE);
        due.is("15: empty", x.until(1), Due.NONE);
        due.is("15: wrong", x.until(4), Due.BEYOND);
        due.is("15: wrong", x.until(-1), Due.BEYOND);
        InkHours y = new InkHours();
        Due.read(y, "ink 1 lasts 3;on 0 a;on 0 ink 1 and a");
        due.is("15: a like meaning is no other", y.until(0), 24);
        InkHours z = new InkHours();
        for (int i = 0; i < 9; i++) z.hours(1000);
        z.ink(0, 0, 999);
        z.write(0, 1, 0, 0);
        due.is("15: at 9999", z.until(0), 9999);
        z.hours(1);
        z.write(1, 1, 0, 0);
        due.is("15: not by 9999", z.until(1), Due.NONE);
    }

    private static void changes() {
        InkHours x = fading();
        due.is("16: all", x.changes(0, 0, 9999), 3);
        due.is("16: to the first", x.changes(0, 0, 10), 1);
        due.is("16: up to it", x.changes(0, 0, 9), 0);
        due.is("16: from it on", x.changes(0, 10, 12), 1);
        due.is("16: from behind it on", x.changes(0, 11, 12), 0);
        due.is("16: the second", x.changes(0, 12, 13), 1);
        due.is("16: both", x.changes(0, 11, 34), 2);
        due.is("16: the second is the first hour", x.changes(0, 13, 33), 1);
        due.is("16: first and last hour", x.changes(0, 13, 34), 2);
        due.is("16: the last is the first hour", x.changes(0, 34, 9999), 1);
        due.is("16: behind all", x.changes(0, 35, 9999), 0);
        due.is("16: nothing changes", x.changes(1, 0, 9999), 0);
        due.is("16: many", flickering().changes(0, 0, 9999), 24);
        due.is("16: many, from the first one on", flickering().changes(0, 1, 9999), 24);
        due.is("16: many, from behind the first one on", flickering().changes(0, 2, 9999), 23);
        InkHours y = new InkHours();
        y.write(0, 1, 0, 0);
        due.is("16: no hour is ahead of 0", y.changes(0, 0, 23), 0);
        due.is("16: from 1 on", y.changes(0, 1, 23), 0);
        due.is("16: up to the change", y.changes(0, 0, 24), 1);
        due.is("16: the same hour", x.changes(0, 5, 5), Due.BEYOND);
        due.is("16: backwards", x.changes(0, 6, 5), Due.BEYOND);
        due.is("16: wrong", x.changes(0, -1, 5), Due.BEYOND);
        due.is("16: wrong", x.changes(0, 0, 10000), Due.BEYOND);
        due.is("16: wrong", x.changes(4, 0, 1), Due.BEYOND);
        due.is("16: wrong", x.changes(-1, 0, 1), Due.BEYOND);
    }

    private static void showsAndOften() {
        InkHours x = fading();
        due.is("17: now", x.shows(0, Due.ALL ^ Due.A), 10);
        due.is("17: later", x.shows(0, Due.A), 13);
        due.is("17: none", x.shows(0, -1), 34);
        due.is("17: never", x.shows(0, 0), Due.NONE);
        due.is("17: empty", x.shows(1, -1), 10);
        due.is("18: often", x.often(0, Due.ALL ^ Due.A), 3);
        due.is("18: often", x.often(0, Due.A), 21);
        due.is("18: often none", x.often(0, -1), 9966);
        due.is("18: never", x.often(0, 0), 0);
        due.is("18: empty", x.often(3, -1), 9990);
        x.hours(5);
        due.is("17: gone by", x.shows(0, Due.ALL ^ Due.A), Due.NONE);
        due.is("17: from now on", x.shows(0, Due.A), 15);
        due.is("18: from now on", x.often(0, Due.A), 19);
        InkHours y = new InkHours();
        for (int i = 0; i < 9; i++) y.hours(1000);
        Due.read(y, "ink 0 lasts 999;on 0 a");
        due.is("17: at 9999", y.shows(0, -1), 9999);
        due.is("18: up to 9999", y.often(0, Due.A), 999);
        due.is("18: at 9999", y.often(0, -1), 1);
        y.hours(999);
        due.is("17: now is 9999", y.shows(0, -1), 9999);
        due.is("17: and no hour behind it", y.shows(0, Due.A), Due.NONE);
        due.is("18: now is 9999", y.often(0, -1), 1);
        int[][] wrong = {{4, 0}, {-1, 0}, {0, -2}, {0, 65536}};
        for (int[] w : wrong) {
            due.is("17: wrong", x.shows(w[0], w[1]), Due.BEYOND);
            due.is("18: wrong", x.often(w[0], w[1]), Due.BEYOND);
        }
        due.is("17: greatest", x.shows(0, 65535), Due.NONE);
        due.is("18: greatest", x.often(0, 65535), 0);
    }

    private static void same() {
        InkHours x = new InkHours();
        Due.read(x, "ink 1 lasts 5;on 0 a or b;on 1 not;on 1 bold b or a;on 2 ink 1 b or a");
        due.is("19: unlike", x.same(0, 1, 0), 0);
        due.is("19: like", x.same(0, 2, 0), 1);
        due.is("19: one is gone", x.same(0, 2, 5), 0);
        due.is("19: both none", x.same(0, 2, 24), 1);
        due.is("19: bold stays", x.same(0, 1, 24), 0);
        due.is("19: itself", x.same(1, 1, 0), 1);
        int[][] wrong = {{4, 0, 0}, {0, 4, 0}, {-1, 0, 0}, {0, -1, 0}, {0, 0, -1}, {0, 0, 10000}};
        for (int[] w : wrong) due.is("19: wrong", x.same(w[0], w[1], w[2]), Due.BEYOND);
    }
}
