/** Objects that the edges are asked of. */
final class Scenes {
    private Scenes() { }

    /** Feeds a text, four bytes a call. */
    static void feed(InkHours x, String text) {
        for (int i = 0; i < text.length(); ) {
            int n = Math.min(4, text.length() - i), v = 0;
            for (int k = 0; k < n; k++) v = v << 8 | text.charAt(i + k);
            x.feed(v, n);
            i += n;
        }
    }

    static InkHours read(InkHours x, String text) {
        feed(x, text);
        if (x.text() < 0) throw new IllegalStateException("a scene's text has a fault: " + text);
        return x;
    }

    static InkHours of(String text) { return read(new InkHours(), text); }

    /** A new object at an hour. */
    static InkHours at(int hour) {
        InkHours x = new InkHours();
        go(x, hour);
        return x;
    }

    static void go(InkHours x, int hours) {
        for (int left = hours; left > 0; left -= 1000) x.hours(Math.min(1000, left));
    }

    /**
     * NOW is 20. PAPER 0: a and b or not c (AT 10, in INK 2, which LASTS 300); 1, in LIGHT: not bold a (AT 20, INK 1: 60); 2: empty;
     * 3: ten blots, not d (AT 10, INK 0: 24), so it is full. z is 77; PRICES: INK 1 8, 2 3. SPOT 0 holds 2 of 0 (b), 3 the 11 of 3
     * (d), 9 the 0 of 1 (not). SHEET 0 has 4 numbers of 8 bits, 1 3 of 16, 2 2 of 32, 3 is MISSING. THE TAPE has 28 bytes.
     * An image of the HOUR 10 is kept, in which all that is another.
     */
    static InkHours rich() {
        InkHours x = new InkHours();
        x.ink(1, 0, 7);
        x.ink(1, 1, 8);
        x.light(3, true);
        read(x, "on 0 c;on 1 ink 3 d or d");
        x.hold(5, 1, 0);
        x.seed(-9);
        x.hours(10);
        x.image();
        x.light(3, false);
        x.light(1, true);
        x.ink(1, 0, 60);
        x.ink(2, 0, 300);
        x.ink(2, 1, 3);
        x.scratch(0, 0);
        for (int i = 0; i < 3; i++) x.scratch(1, 0);
        read(x, "on 0 ink 2 a and b or not c;on 3 blot blot blot blot blot blot blot blot blot blot not d");
        x.hours(10);
        read(x, "on 1 ink 1 not bold a");
        x.seed(77);
        x.hold(0, 0, 2);
        x.hold(3, 3, 11);
        x.hold(9, 1, 0);
        sheet(x, 0, 8, 11, 30, 23, 0);
        sheet(x, 1, 16, 63, 10, 50);
        sheet(x, 2, 32, 43, 12);
        feed(x, "ink 5 lasts 77;paper 2 light");
        return x;
    }

    static void sheet(InkHours x, int s, int bits, int... numbers) {
        x.sheet(s, bits, numbers.length);
        for (int i = 0; i < numbers.length; i++) x.put(s, i, numbers[i]);
    }
}
