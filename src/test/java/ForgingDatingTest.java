/** Promises 24 to 29: forged, forge, earliest, latest, clerk, seed. */
public final class ForgingDatingTest {
    private static final Due due = new Due("ForgingDatingTest");

    public static void main(String[] args) {
        forged();
        forge();
        fullPaper();
        dates();
        clerk();
        seed();
        due.end();
    }

    private static InkHours of(String text) {
        InkHours x = new InkHours();
        due.is("text", Due.read(x, text) > 0 ? 1 : 0, 1);
        return x;
    }

    private static void forged() {
        InkHours x = of("on 0 a;on 1 a and;on 2 a b");
        due.is("24: not a, and no more", x.forged(0), 1);
        due.is("24: a and any letter", x.forged(1), 4);
        due.is("24: and, or", x.forged(2), 2);
        due.is("24: any letter", x.forged(3), 4);
        due.is("24: that of now counts if it is made", of("on 0 a and not a and b").forged(0), 3);
        due.is("24: none", of("on 0 a b c").forged(0), 0);
        InkHours y = of("ink 1 lasts 2;on 0 ink 1 not;on 0 a and");
        due.is("24: seen now", y.forged(0), 4);
        due.is("24: a mark is not made", y.count(1), 3);
        y.hours(2);
        due.is("24: the no is gone", y.forge(0, Due.A & Due.B), 311);
        due.is("24: wrong", x.forged(4), Due.BEYOND);
        due.is("24: wrong", x.forged(-1), Due.BEYOND);
    }

    private static void forge() {
        InkHours x = of("on 0 a and;on 1 a b;on 2 not a");
        due.is("25: behind all", x.forge(0, Due.A & Due.D), 213);
        due.is("25: a again", x.forge(0, Due.A), 210);
        due.is("25: an and between", x.forge(1, Due.A & Due.B), 130);
        due.is("25: an or between", x.forge(1, Due.A | Due.B), 150);
        due.is("25: of several the least", x.forge(2, Due.A), 20);
        due.is("25: a no on an empty paper", x.forge(3, Due.ALL ^ Due.A), Due.NONE);
        due.is("25: a word on an empty one", x.forge(3, Due.D), 13);
        due.is("25: that of now", x.forge(2, Due.ALL ^ Due.A), Due.NONE);
        due.is("25: a no behind a join", of("on 0 b and a").forge(0, Due.B & ~Due.A), 220);
        due.is("25: nothing is written", x.count(1), 6);
        due.is("25: never true", of("on 0 a and not").forge(0, 0), 310);
        due.is("25: ever true", of("on 0 a or not").forge(0, Due.ALL), 310);
        due.is("25: wrong", x.forge(0, -1), Due.BEYOND);
        due.is("25: wrong", x.forge(0, -2), Due.BEYOND);
        due.is("25: wrong", x.forge(0, 65536), Due.BEYOND);
        due.is("25: wrong", x.forge(4, 0), Due.BEYOND);
        due.is("25: wrong", x.forge(-1, 0), Due.BEYOND);
    }

    /** One mark more is only thought of: a paper with 12 has places for it, too. */
    private static void fullPaper() {
        InkHours x = of("on 0 blot blot blot blot blot blot blot blot blot blot a and");
        due.is("24: a 13th", x.forged(0), 4);
        due.is("25: a 13th", x.forge(0, Due.A & Due.C), 1212);
        InkHours y = of("on 0 not not not not not not not not not not not a");
        due.is("24: one no more", y.forged(0), 1);
        due.is("25: one no more", y.forge(0, Due.A), 20);
        InkHours z = of("on 0 a or b or c or d or a or b or");
        due.is("24: a letter behind", z.forged(0), 1);
        due.is("25: a letter behind", z.forge(0, Due.A | Due.B | Due.C | Due.D), 1210);
    }

    private static void dates() {
        InkHours x = of("ink 1 lasts 10");
        due.is("26: dark", x.earliest(0, 1, 100), 91);
        due.is("27: dark", x.latest(0, 1, 100), 90);
        due.is("26: from 0 on", x.earliest(0, 1, 9), 0);
        due.is("26: the first that can't be", x.earliest(0, 1, 10), 1);
        due.is("27: none", x.latest(0, 1, 9), Due.NONE);
        due.is("27: the first", x.latest(0, 1, 10), 0);
        due.is("26: at once", x.earliest(0, 1, 0), 0);
        due.is("26: at the end", x.earliest(0, 1, 9999), 9990);
        due.is("27: at the end", x.latest(0, 1, 9999), 9989);
        x.light(2, true);
        // Hours 6 to 17 count twice: from 8 on up to 13 that is 10.
        due.is("26: by day", x.earliest(2, 1, 13), 9);
        due.is("27: by day", x.latest(2, 1, 13), 8);
        // From 14 on up to 20: 8 and 2; by odd counts an hour may go beyond.
        due.is("27: into the night", x.latest(2, 1, 20), 14);
        due.is("27: an hour more", x.latest(2, 1, 21), 14);
        due.is("26: an hour more", x.earliest(2, 1, 21), 15);
        due.is("26: by night", x.earliest(2, 1, 6), 0);
        due.is("27: by night", x.latest(2, 1, 7), Due.NONE);
        due.is("27: by day", x.latest(2, 1, 8), 0);
        x.ink(1, 0, 999);
        due.is("27: a long one", x.latest(2, 1, 9999), 9333);
        int[][] wrong = {{4, 0, 0}, {-1, 0, 0}, {0, 8, 0}, {0, -1, 0}, {0, 0, -1}, {0, 0, 10000}};
        for (int[] w : wrong) {
            due.is("26: wrong", x.earliest(w[0], w[1], w[2]), Due.BEYOND);
            due.is("27: wrong", x.latest(w[0], w[1], w[2]), Due.BEYOND);
        }
    }

    private static void clerk() {
        InkHours x = of("on 1 a and b;on 2 a");
        x.hours(7);
        // 1 becomes 1103527590 and gives 4310654, by 3: 2; that becomes -1770082073 and gives 9862832: 2 again;
        // that becomes 662824084 and gives 2589156: 0.
        due.is("28: one of them twice", x.clerk(1, 3, 4), 2);
        due.is("28: z", x.count(5), 662824084);
        due.is("28: copied", x.markOf(1, 0, 3), 7);
        due.is("28: in the ink", x.markOf(1, 0, 2), 4);
        due.is("28: one stays", x.markOf(1, 1, 3), 0);
        due.is("28: its ink too", x.markOf(1, 1, 2), 0);
        due.is("28: copied", x.markOf(1, 2, 3), 7);
        due.is("28: in the ink", x.markOf(1, 2, 2), 4);
        x.seed(1);
        due.is("28: the third one twice", x.clerk(1, 2, 6), 1);
        due.is("28: the third one", x.markOf(1, 2, 2), 6);
        due.is("28: not the first one", x.markOf(1, 0, 2), 4);
        due.is("28: one again and again", x.clerk(2, 12, 7), 1);
        int z = x.count(5);
        due.is("28: none there", x.clerk(0, 1, 0), Due.STATE);
        due.is("28: no draw then", x.count(5), z);
        int[][] wrong = {{4, 1, 0}, {-1, 1, 0}, {1, 0, 0}, {1, 13, 0}, {1, -1, 0}, {1, 1, 8}, {1, 1, -1}, {0, 13, 0}};
        for (int[] w : wrong) due.is("28: wrong", x.clerk(w[0], w[1], w[2]), Due.BEYOND);
        due.is("28: no draw then", x.count(5), z);
    }

    private static void seed() {
        InkHours x = new InkHours();
        due.is("29: at first", x.seed(-1000001), 1);
        due.is("29: any int", x.count(5), -1000001);
        due.is("29: what it was", x.seed(Integer.MIN_VALUE), -1000001);
        due.is("29: what it was", x.seed(0), Integer.MIN_VALUE);
        due.is("29: no finding", x.status(-1), 0);
        x.write(0, 1, 0, 0);
        x.clerk(0, 1, 0);
        due.is("29: the next draw", x.seed(5), 12345);
    }
}
