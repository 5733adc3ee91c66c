import java.util.List;

/** Asks what one sentence of the document says after the other: what it lets in, what it refuses, and that a refusal changes nothing. */
final class Edges {
    interface Made { InkHours make(); }
    interface Call { int of(InkHours x); }
    interface CallWith { int of(InkHours x, int v); }

    private final Document document = new Document();
    private String sentence = "";
    private int asked = 0;
    private int wrong = 0;

    /** From here on a sentence that stands under this promise is asked; it is named in what is printed. */
    void promise(int number, String words) {
        sentence = "promise " + number + ", \"" + words + "\"";
        if (!document.quotePromise(number, words)) tell("the document doesn't say that there");
    }

    void terms(String words) {
        sentence = "Terms, \"" + words + "\"";
        if (!document.quoteTerms(words)) tell("the document doesn't say that there");
    }

    private void tell(String what) {
        wrong++;
        System.out.println(sentence + ": " + what);
    }

    void is(String what, int got, int want) {
        asked++;
        if (got != want) tell(what + " answered " + got + ", due is " + want);
    }

    void is(String what, boolean as) {
        asked++;
        if (!as) tell(what);
    }

    /** A call answers a finding and changes nothing but status(): the finding is counted once. */
    void refuses(String what, Made made, int finding, Call call) {
        InkHours with = made.make(), without = made.make();
        is(what, call.of(with), finding);
        int which = Due.BEYOND - finding;
        for (int i = -1; i <= 6; i++) {
            int more = i == -1 || i == which ? 1 : 0;
            is(what + ": status(" + i + ") is more by", with.status(i) - without.status(i), more);
        }
        unchanged(what, with, without);
    }

    /** A call that only asks answers no finding and changes nothing at all. */
    void asks(String what, Call call) {
        InkHours with = Scenes.rich(), without = Scenes.rich();
        asked++;
        call.of(with);
        for (int i = -1; i <= 6; i++) is(what + ": status(" + i + ")", with.status(i), without.status(i));
        unchanged(what, with, without);
    }

    /** Two objects are alike in all that a call can tell, but for status(). */
    void unchanged(String what, InkHours with, InkHours without) {
        asked++;
        List<String> got = Looks.at(with), want = Looks.at(without);
        for (int i = 0; i < Math.max(got.size(), want.size()); i++) {
            String g = i < got.size() ? got.get(i) : "nothing", w = i < want.size() ? want.get(i) : "nothing";
            if (!g.equals(w)) {
                tell(what + ": something changed: " + g + ", due is " + w);
                return;
            }
        }
    }

    /** The least and the most that an argument may be are let in; those next to them and the farthest ones are BEYOND. */
    void range(String what, Made made, int least, int most, CallWith call) {
        for (int v : new int[] {least, most}) {
            asked++;
            if (call.of(made.make(), v) == Due.BEYOND) tell(what + " " + v + " is BEYOND, but is to be let in");
        }
        for (int v : new int[] {least - 1, most + 1, Integer.MIN_VALUE, Integer.MAX_VALUE}) {
            refuses(what + " " + v, made, Due.BEYOND, x -> call.of(x, v));
        }
    }

    /** A text whose fault stands where the sign ! does (which isn't fed): it is told, nothing changes, and it is no finding. */
    void fault(Made made, String marked) {
        int place = marked.indexOf('!');
        String text = marked.substring(0, place) + marked.substring(place + 1);
        InkHours with = made.make(), without = made.make();
        without.wipe();
        with.wipe();
        Scenes.feed(with, text);
        String what = "the text '" + marked + "'";
        is(what, with.text(), -1 - place);
        is(what + ": THE TAPE is empty", with.count(4), 0);
        is(what + ": no finding", with.status(-1), without.status(-1));
        unchanged(what, with, without);
    }

    void end() {
        sentence = "all";
        is("promises in the document", document.promises(), 44);
        for (String words : document.unquoted()) tell("no test quotes: " + words);
        System.out.println("EdgesTest: " + asked + " answers asked, " + wrong + " not as due");
        if (wrong > 0 || asked == 0) System.exit(1);
    }
}
