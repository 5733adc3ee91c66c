/** Promises 30 to 32: feed, wipe, text. */
public final class TextsTest {
    private static final Due due = new Due("TextsTest");

    public static void main(String[] args) {
        feed();
        wipe();
        inks();
        papers();
        marks();
        faults();
        tokens();
        tooManyMarks();
        nothingChanges();
        due.end();
    }

    private static int text(String s) { return Due.read(new InkHours(), s); }

    private static void feed() {
        InkHours x = new InkHours();
        due.is("30: n 0", x.feed(1, 0), Due.BEYOND);
        due.is("30: n 5", x.feed(1, 5), Due.BEYOND);
        due.is("30: n -1", x.feed(1, -1), Due.BEYOND);
        due.is("30: the lowest, highest first", x.feed(0x7f6f6e20, 3), 3);
        due.is("30: one", x.feed(0x78787830, 1), 4);
        due.is("30: four", x.feed(0x20612020, 4), 8);
        due.is("30: two", x.feed(0x3b, 1), 9);
        due.is("30: 'on 0 a  ;' ends too early", x.text(), -10);
        for (int i = 1; i <= 29; i++) due.is("30: feed", x.feed(-1, 4), 4 * i);
        due.is("30: 118", x.feed(0, 2), 118);
        due.is("30: no room", x.feed(0, 3), Due.FULL);
        due.is("30: nothing came", x.count(4), 118);
        due.is("30: beyond comes first", x.feed(0, 5), Due.BEYOND);
        due.is("30: 120", x.feed(0, 2), 120);
        due.is("30: full", x.feed(0, 1), Due.FULL);
    }

    private static void wipe() {
        InkHours x = new InkHours();
        x.feed(0, 3);
        due.is("31: wipe", x.wipe(), 3);
        due.is("31: again", x.wipe(), 0);
        due.is("31: empty", x.count(4), 0);
        x.feed('a', 1);
        x.wipe();
        due.is("31: nothing is left", Due.read(x, "on 0 a"), 1);
    }

    private static void inks() {
        InkHours x = new InkHours();
        due.is("32: ink", Due.read(x, "ink 7 lasts 999 price 99;ink 0 lasts 1;ink 1 lasts 5 price 0"), 3);
        due.is("32: tape is empty", x.count(4), 0);
        due.is("32: lasts", x.ink(7, 0, 24), 999);
        due.is("32: price", x.ink(7, 1, 1), 99);
        due.is("32: lasts", x.ink(0, 0, 24), 1);
        due.is("32: price stays", x.ink(0, 1, 1), 1);
        due.is("32: price 0", x.ink(1, 1, 1), 0);
        due.is("32: item by item", Due.read(x, "ink 2 lasts 5;ink 2 lasts 6"), 2);
        due.is("32: the later one", x.ink(2, 0, 24), 6);
    }

    private static void papers() {
        InkHours x = new InkHours();
        due.is("32: paper", Due.read(x, "paper 3 light;paper 2 light;paper 2 dark"), 3);
        due.is("32: light", x.light(3, false), 1);
        due.is("32: dark", x.light(2, false), 0);
    }

    private static void marks() {
        InkHours x = new InkHours();
        x.write(2, 0, 3, 3);
        x.hours(9);
        due.is("32: on", Due.read(x, "on 2 ink 5 a b c d not and or bold b faint d blot;on 3 ink 0 c;on 1 b"), 3);
        int[] kinds = {0, 1, 1, 1, 1, 2, 3, 5, 4, 6, 0};
        int[] letters = {3, 0, 1, 2, 3, 0, 0, 0, 1, 3, 0};
        for (int k = 0; k <= 10; k++) {
            due.is("32: kind of " + k, x.markOf(2, k, 0), kinds[k]);
            due.is("32: letter of " + k, x.markOf(2, k, 1), letters[k]);
            due.is("32: ink of " + k, x.markOf(2, k, 2), k == 0 ? 3 : 5);
            due.is("32: at of " + k, x.markOf(2, k, 3), k == 0 ? 0 : 9);
        }
        due.is("32: no more", x.markOf(2, 11, 0), Due.BEYOND);
        due.is("32: ink without", x.markOf(1, 0, 2), 0);
    }

    private static void faults() {
        String[] ends = {"", "ink", "ink 1", "ink 1 lasts", "ink 1 lasts 5 price", "paper", "paper 1", "on", "on 1", "on 1 ink", "on 1 ink 1",
            "on 1 bold", "on 1 a faint", "on 1 a;", "paper 1 dark ; ", "  ", "on 1  ", "ink 1 lasts 5;"};
        for (String s : ends) due.is("32: ends too early: ".concat(s), text(s), -1 - s.length());
        // The fault is where the sign ! stands in what is written here.
        String[] wrong = {"!;", "!a", "!5", "!lasts", "!inks 1 lasts 5", "!Ink", "!xnk 1 lasts 5", "!in", "!xaper 0 dark", "!xn 0 a", "ink 1 !xasts 5", "on 0 !xot", "ink !lasts", "ink !8 lasts 5", "ink !-1", "ink 1 !5", "ink 1 !price 5",
            "ink 1 lasts !0", "ink 1 lasts !1000", "ink 1 lasts !price", "ink 1 lasts 5 !5", "ink 1 lasts 5 price !100", "ink 1 lasts 5 price 5 !price 5",
            "ink 1 lasts 5 !lasts 6", "paper !4 light", "paper 0 !red", "paper 0 !;", "paper 0 light !dark", "paper !light", "on !4 a", "on !a", "on 0 !;",
            "on 0 ink !8 a", "on 0 ink !a", "on 0 ink 1 !ink 1 a", "on 0 a !ink 1", "on 0 a !1", "on 0 !e", "on 0 !aa", "on 0 !az", "on 0 !za", "on 0 a !light", "on 0 bold !and",
            "on 0 bold !bold a", "on 0 faint !;", "on 0 bold !1", "on 0 bold !blot", "on 0 a;!;", "on 0 a;!a", "on 0 a; !5", "on 0 a !on 1 a", "on 0 a !A",
            "on 0 !.", "on 0 a ; ink 1 lasts 5;!x", "on 0 a!-", "on!\t0 a", "on 0 a !\u00ff", "!\u0000"};
        for (String s : wrong) {
            int place = s.indexOf('!');
            due.is("32: ".concat(s), text(s.substring(0, place).concat(s.substring(place + 1))), -1 - place);
        }
    }

    private static void tokens() {
        due.is("32: blanks may stand", text("   on   0   a   ;   on 1 b   "), 2);
        due.is("32: none need stand", text("on0ink1a and b;ink7lasts999price99;paper3dark"), 3);
        due.is("32: words are as long as can be", text("on0aand b"), -4);
        due.is("32: words are as long as can be", text("on0a andb"), -6);
        due.is("32: zeros ahead", text("ink 0007 lasts 000999 price 0000000000099"), 1);
        due.is("32: 10000", text("on 10000 a"), -4);
        due.is("32: 4294967296", text("on 4294967296 a"), -4);
        due.is("32: many digits", text("on 99999999999999999999999999999999999 a"), -4);
        due.is("32: digits behind each other", text("on 0 1 a"), -6);
        due.is("32: a number ends a word", text("on 0 bold1"), -10);
        StringBuilder s = new StringBuilder("on 0");
        while (s.length() < 119) s.append(' ');
        due.is("32: 120 bytes", text(s.append('d').toString()), 1);
        s.setLength(0);
        while (s.length() < 108) s.append(' ');
        due.is("32: 120 bytes with a number last", text(s.append("ink 1lasts 9").toString()), 1);
        s.setLength(0);
        while (s.length() < 120) s.append("on0a;");
        due.is("32: a 13th by many items", text(s.toString()), -64);
        due.is("32: 12 items", text(s.substring(0, 59)), 12);
        due.is("32: ink 7", text("on 0 ink 7 a"), 1);
        InkHours x = new InkHours();
        Due.read(x, "on 4 a");
        due.is("32: a fault empties the tape", x.count(4), 0);
        due.is("32: it is no finding", x.status(-1), 0);
    }

    private static void tooManyMarks() {
        due.is("32: 12 marks", text("on 0 a a a a a a a a a a a a"), 1);
        due.is("32: a 13th", text("on 0 a a a a a a a a a a a a b"), -30);
        due.is("32: a 13th no", text("on 0 a a a a a a a a a a a a   not"), -32);
        due.is("32: a bold 13th", text("on 0 a a a a a a a a a a a a bold b"), -30);
        due.is("32: a faint 13th that is none", text("on 0 a a a a a a a a a a a a faint ;"), -30);
        due.is("32: another word is one at fault, too", text("on 0 a a a a a a a a a a a a x"), -30);
        due.is("32: a 12th bold one", text("on 0 a a a a a a a a a a a bold b"), 1);
        due.is("32: of two items", text("on 0 a a a a a a a a a;on 1 a;on 0 a a a a"), -42);
        due.is("32: papers apart", text("on 0 a a a a a a a a a;on 1 a a a a"), 2);
        InkHours x = new InkHours();
        for (int i = 0; i < 11; i++) x.write(2, 1, 0, 0);
        due.is("32: behind those that there are", Due.read(x, "on 2 a b"), -8);
        due.is("32: one has room", Due.read(x, "on 2 bold b"), 1);
        due.is("32: none has", Due.read(x, "on 2 a"), -6);
    }

    private static void nothingChanges() {
        InkHours x = new InkHours();
        x.write(0, 4, 2, 5);
        x.hold(0, 0, 0);
        due.is("32: a fault at the end", Due.read(x, "ink 1 lasts 5 price 7;paper 0 light;on 0 a b;on 1 c;on 4 a"), -56);
        due.is("32: lasts", x.ink(1, 0, 24), 24);
        due.is("32: price", x.ink(1, 1, 1), 1);
        due.is("32: light", x.light(0, false), 0);
        due.is("32: marks", x.count(1), 1);
        due.is("32: its kind", x.markOf(0, 0, 0), 4);
        due.is("32: spot", x.as(0, 0), 0);
    }
}
