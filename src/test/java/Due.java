/** What a test counts: answers that are not the ones that are due. */
final class Due {
    static final int BEYOND = -1000001, FULL = -1000002, KIND = -1000003, NONE = -1000004;
    static final int STATE = -1000005, MISSING = -1000006, SIZE = -1000007;
    /** The truths of a to d. */
    static final int A = 0xAAAA, B = 0xCCCC, C = 0xF0F0, D = 0xFF00, ALL = 0xFFFF;

    private final String test;
    private int asked = 0;
    private int wrong = 0;

    Due(String test) { this.test = test; }

    void is(String call, int got, int want) {
        asked++;
        if (got != want) {
            wrong++;
            System.out.println(test + ": " + call + " answered " + got + ", due is " + want);
        }
    }

    /** Feeds a text and has it read. */
    static int read(InkHours x, String text) {
        for (int i = 0; i < text.length(); i++) x.feed(text.charAt(i), 1);
        return x.text();
    }

    void end() {
        System.out.println(test + ": " + (asked - wrong) + " answers as due, " + wrong + " not");
        if (wrong > 0 || asked == 0) System.exit(1);
    }
}
