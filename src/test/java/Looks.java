import java.util.ArrayList;
import java.util.List;

/** All that calls can tell of an object, but for status(); the object is used up by it. */
final class Looks {
    private final InkHours x;
    private final List<String> seen = new ArrayList<>();

    private Looks(InkHours x) { this.x = x; }

    static List<String> at(InkHours x) {
        Looks looks = new Looks(x);
        looks.world("");
        looks.note("text()", x.text());
        looks.rows("by the text: ");
        looks.sheets();
        looks.note("undo()", x.undo());
        looks.world("kept: ");
        looks.rows("kept: ");
        looks.note("tear()", x.tear());
        return looks.seen;
    }

    private void note(String call, int answer) { seen.add(call + " -> " + answer); }

    private void world(String when) {
        int now = x.count(0);
        for (int what = 0; what <= 6; what++) note(when + "count(" + what + ")", x.count(what));
        for (int p = 0; p < 4; p++) {
            note(when + "seen of " + p, x.seen(p, now));
            note(when + "means of " + p, x.means(p, now));
            for (int m = 0; x.markOf(p, m, 0) >= 0; m++) {
                int all = 0;
                for (int what = 3; what >= 0; what--) all = 10 * all + x.markOf(p, m, what);
                note(when + "mark " + m + " of " + p + " (AT, INK, LETTER, KIND)", all);
            }
        }
        for (int s = 0; s < 10; s++) note(when + "as(" + s + ", 0)", x.as(s, 0));
    }

    /** LASTS, PRICES and LIGHT are told only by changing them. */
    private void rows(String when) {
        for (int i = 0; i < 8; i++) {
            note(when + "LASTS of " + i, x.ink(i, 0, 24));
            note(when + "PRICE of " + i, x.ink(i, 1, 1));
        }
        for (int p = 0; p < 4; p++) note(when + "LIGHT of " + p, x.light(p, false));
    }

    private void sheets() {
        for (int s = 0; s < 4; s++) {
            int size = -1;
            while (size < 40 && x.copy(s, size + 1, s, size + 1, 0) == 0) size++;
            note("numbers of sheet " + s, size);
            for (int t = 0; t < s; t++) note("as many bits: " + s + " and " + t, x.copy(s, 0, t, 0, 0));
        }
        while (x.scratch(2, 0) >= 0) continue;
        for (int s = 0; s < 4; s++) {
            int came = x.load(s, 2, 0);
            note("load(" + s + ", 2, 0)", came);
            for (int m = 0; m < came; m++) note("number " + m + " of sheet " + s, 10 * x.markOf(2, m, 0) + x.markOf(2, m, 1));
            while (x.scratch(2, 0) >= 0) continue;
        }
    }
}
