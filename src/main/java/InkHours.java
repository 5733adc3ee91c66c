/** Inks that fade by the hour, the papers written in them, and what is left to be read. */
public final class InkHours {
    private static final int LOW = -1000001;
    private static final int BEYOND = 0;
    private static final int FULL = 1;
    private static final int KIND = 2;
    private static final int NONE = 3;
    private static final int STATE = 4;
    private static final int MISSING = 5;
    private static final int SIZE = 6;
    private static final int FINDINGS = 7;

    private static final int LAST_HOUR = 9999;
    private static final int INKS = 8;
    private static final int PAPERS = 4;
    private static final int LETTERS = 4;
    private static final int MOST_MARKS = 12;
    private static final int MOST_LASTS = 999;
    private static final int MOST_PRICE = 99;
    private static final int TRUTHS = 16;
    private static final int ALL_TRUTHS = 65535;
    private static final int NO_MEANING = -1;
    private static final int SPOTS = 10;
    private static final int SHEETS = 4;
    private static final int MOST_NUMBERS = 40;
    private static final int MOST_BYTES = 120;

    private static final int MARK = 0;
    private static final int WORD = 1;
    private static final int NO = 2;
    private static final int JOIN = 3;
    private static final int BOLD = 4;
    private static final int OR = 5;
    private static final int FAINT = 6;
    private static final int KINDS = 7;
    private static final int[] KIND_ABOVE = {-1, MARK, MARK, MARK, WORD, JOIN, WORD};
    private static final int[] TRUTHS_OF_LETTER = {0xAAAA, 0xCCCC, 0xF0F0, 0xFF00};

    private static final int[] MORE_KINDS = {WORD, WORD, WORD, WORD, NO, JOIN, OR};
    private static final int[] MORE_LETTERS = {0, 1, 2, 3, 0, 0, 0};
    private static final int MORE_CHOICES = 7;
    private static final int MOST_FORGED = (MOST_MARKS + 1) * MORE_CHOICES;

    private final World world = new World();
    private final World kept = new World();
    private final World before = new World();
    private final Course[] courses = new Course[PAPERS];
    private final Tape tape = new Tape();
    private final Text reader = new Text(tape, world);
    private final Sheet[] sheets = new Sheet[SHEETS];
    private final int[] findings = new int[FINDINGS];
    private final int[] forgeries = new int[MOST_FORGED];
    private final Copies copies = new Copies();
    private boolean isKept = false;

    public InkHours() {
        for (int p = 0; p < PAPERS; p++) {
            courses[p] = new Course(world.papers[p], world.lasts);
        }
        for (int s = 0; s < SHEETS; s++) {
            sheets[s] = new Sheet();
        }
    }

    // ---- hours, inks, papers

    public int hours(int n) {
        if (!within(n, 1, 1000)) {
            return finding(BEYOND);
        }
        if (world.now + n > LAST_HOUR) {
            return finding(STATE);
        }
        world.now += n;
        return world.now;
    }

    public int ink(int ink, int what, int v) {
        if (!isInk(ink)) {
            return finding(BEYOND);
        }
        if (what == 0 && within(v, 1, MOST_LASTS)) {
            return exchange(world.lasts, ink, v);
        }
        if (what == 1 && within(v, 0, MOST_PRICE)) {
            return exchange(world.prices, ink, v);
        }
        return finding(BEYOND);
    }

    public int light(int paper, boolean is) {
        if (!isPaper(paper)) {
            return finding(BEYOND);
        }
        boolean was = world.papers[paper].lit;
        world.papers[paper].lit = is;
        return was ? 1 : 0;
    }

    public int write(int paper, int kind, int letter, int ink) {
        if (!isPaper(paper) || !isKind(kind) || !isLetter(letter) || !isInk(ink)) {
            return finding(BEYOND);
        }
        Paper page = world.papers[paper];
        if (page.isFull()) {
            return finding(FULL);
        }
        page.add(kind, letter, ink, world.now);
        return page.size - 1;
    }

    public int markOf(int paper, int mark, int what) {
        if (!isMark(paper, mark)) {
            return finding(BEYOND);
        }
        Paper page = world.papers[paper];
        switch (what) {
            case 0:
                return page.kinds[mark];
            case 1:
                return page.letters[mark];
            case 2:
                return page.inks[mark];
            case 3:
                return page.ats[mark];
            case 4:
                return span(page.kinds[mark], world.lasts[page.inks[mark]]);
            default:
                return finding(BEYOND);
        }
    }

    public int turn(int paper, int mark, int kind) {
        if (!isMark(paper, mark) || !isKind(kind)) {
            return finding(BEYOND);
        }
        return exchange(world.papers[paper].kinds, mark, kind);
    }

    public int scratch(int paper, int mark) {
        if (!isMark(paper, mark)) {
            return finding(BEYOND);
        }
        world.papers[paper].drop(mark);
        world.freeSpots(paper, mark);
        return world.papers[paper].size;
    }

    public int copied(int paper, int mark, int ink) {
        if (!isMark(paper, mark) || !isInk(ink)) {
            return finding(BEYOND);
        }
        world.papers[paper].ats[mark] = world.now;
        return exchange(world.papers[paper].inks, mark, ink);
    }

    // ---- what is seen, and means

    public int seen(int paper, int hour) {
        if (!isPaper(paper) || !isHour(hour)) {
            return finding(BEYOND);
        }
        return reckoned(paper).seenAt(hour);
    }

    public int age(int paper, int mark, int hour) {
        if (!isMark(paper, mark) || !isHour(hour)) {
            return finding(BEYOND);
        }
        Paper page = world.papers[paper];
        if (hour < page.ats[mark]) {
            return finding(STATE);
        }
        return wearBefore(page.lit, hour) - wearBefore(page.lit, page.ats[mark]);
    }

    public int gone(int paper, int mark) {
        if (!isMark(paper, mark)) {
            return finding(BEYOND);
        }
        int end = reckoned(paper).ends[mark];
        return end > LAST_HOUR ? finding(NONE) : end;
    }

    public int means(int paper, int hour) {
        if (!isPaper(paper) || !isHour(hour)) {
            return finding(BEYOND);
        }
        return reckoned(paper).meaningAt(hour);
    }

    public int says(int paper, int hour, int truth) {
        if (!isPaper(paper) || !isHour(hour) || !within(truth, 0, TRUTHS - 1)) {
            return finding(BEYOND);
        }
        int meaning = reckoned(paper).meaningAt(hour);
        return meaning == NO_MEANING ? finding(NONE) : meaning >> truth & 1;
    }

    public int until(int paper) {
        if (!isPaper(paper)) {
            return finding(BEYOND);
        }
        int hour = reckoned(paper).changeBehind(world.now, LAST_HOUR);
        return hour > LAST_HOUR ? finding(NONE) : hour;
    }

    public int changes(int paper, int from, int to) {
        if (!isPaper(paper) || !isHour(from) || !isHour(to) || to <= from) {
            return finding(BEYOND);
        }
        return reckoned(paper).changesWithin(from, to);
    }

    public int shows(int paper, int meaning) {
        if (!isPaper(paper) || !within(meaning, NO_MEANING, ALL_TRUTHS)) {
            return finding(BEYOND);
        }
        int hour = reckoned(paper).firstWith(meaning, world.now);
        return hour > LAST_HOUR ? finding(NONE) : hour;
    }

    public int often(int paper, int meaning) {
        if (!isPaper(paper) || !within(meaning, NO_MEANING, ALL_TRUTHS)) {
            return finding(BEYOND);
        }
        return reckoned(paper).hoursWith(meaning, world.now);
    }

    public int same(int one, int other, int hour) {
        if (!isPaper(one) || !isPaper(other) || !isHour(hour)) {
            return finding(BEYOND);
        }
        return reckoned(one).meaningAt(hour) == reckoned(other).meaningAt(hour) ? 1 : 0;
    }

    // ---- inks and copies

    public int stays(int paper, int hour) {
        if (!isPaper(paper) || !isHour(hour)) {
            return finding(BEYOND);
        }
        if (hour < world.now) {
            return finding(STATE);
        }
        return reckoned(paper).keeps(world.now, hour) ? 1 : 0;
    }

    public int cheapest(int paper, int one, int other, int n) {
        if (!isMark(paper, one) || !isMark(paper, other) || one == other || !within(n, 0, 200)) {
            return finding(BEYOND);
        }
        Course course = reckoned(paper);
        int both = 1 << one | 1 << other;
        if ((course.seenAt(world.now) & both) != both || world.now + n > LAST_HOUR) {
            return finding(STATE);
        }
        int pair = cheapestPair(course, one, other, world.now + n);
        return pair < 0 ? finding(NONE) : pair;
    }

    public int fewest(int paper, int ink, int n) {
        if (!isPaper(paper) || !isInk(ink) || !within(n, 0, 100)) {
            return finding(BEYOND);
        }
        if (world.now + n > LAST_HOUR) {
            return finding(STATE);
        }
        int set = copies.smallestSet(reckoned(paper), world.lasts[ink], world.now, world.now + n);
        return set < 0 ? finding(NONE) : set;
    }

    public int lasting(int paper, int ink, int n) {
        if (!isPaper(paper) || !isInk(ink) || !within(n, 0, 100)) {
            return finding(BEYOND);
        }
        if (world.now + n > LAST_HOUR) {
            return finding(STATE);
        }
        int least = reckoned(paper).leastLasts(ink, world.now, world.now + n);
        return least < 0 ? finding(NONE) : least;
    }

    // ---- forging, dating

    public int forged(int paper) {
        if (!isPaper(paper)) {
            return finding(BEYOND);
        }
        Course course = reckoned(paper);
        int set = course.seenAt(world.now);
        int found = 0;
        for (int place = 0; place <= world.papers[paper].size; place++) {
            for (int choice = 0; choice < MORE_CHOICES; choice++) {
                int meaning = course.meaningWith(set, place, choice);
                if (meaning != NO_MEANING && found < MOST_FORGED && !isAmong(forgeries, found, meaning)) {
                    forgeries[found] = meaning;
                    found++;
                }
            }
        }
        return found;
    }

    public int forge(int paper, int meaning) {
        if (!isPaper(paper) || !within(meaning, 0, ALL_TRUTHS)) {
            return finding(BEYOND);
        }
        Course course = reckoned(paper);
        int set = course.seenAt(world.now);
        for (int place = 0; place <= world.papers[paper].size; place++) {
            for (int choice = 0; choice < MORE_CHOICES; choice++) {
                if (course.meaningWith(set, place, choice) == meaning) {
                    return 100 * place + 10 * MORE_KINDS[choice] + MORE_LETTERS[choice];
                }
            }
        }
        return finding(NONE);
    }

    public int earliest(int paper, int ink, int hour) {
        if (!isPaper(paper) || !isInk(ink) || !isHour(hour)) {
            return finding(BEYOND);
        }
        return firstUnfaded(paper, ink, hour);
    }

    public int latest(int paper, int ink, int hour) {
        if (!isPaper(paper) || !isInk(ink) || !isHour(hour)) {
            return finding(BEYOND);
        }
        int first = firstUnfaded(paper, ink, hour);
        return first == 0 ? finding(NONE) : first - 1;
    }

    public int clerk(int paper, int n, int ink) {
        if (!isPaper(paper) || !within(n, 1, MOST_MARKS) || !isInk(ink)) {
            return finding(BEYOND);
        }
        Paper page = world.papers[paper];
        if (page.size == 0) {
            return finding(STATE);
        }
        int done = 0;
        for (int i = 0; i < n; i++) {
            int mark = world.draw() % page.size;
            page.ats[mark] = world.now;
            page.inks[mark] = ink;
            done |= 1 << mark;
        }
        return Integer.bitCount(done);
    }

    public int seed(int v) {
        int was = world.z;
        world.z = v;
        return was;
    }

    // ---- texts

    public int feed(int bytes, int n) {
        if (!within(n, 1, 4)) {
            return finding(BEYOND);
        }
        if (tape.size + n > MOST_BYTES) {
            return finding(FULL);
        }
        for (int i = n - 1; i >= 0; i--) {
            tape.add(bytes >>> 8 * i & 255);
        }
        return tape.size;
    }

    public int wipe() {
        int had = tape.size;
        tape.size = 0;
        return had;
    }

    public int text() {
        before.become(world);
        int items = reader.readItems();
        tape.size = 0;
        if (items < 0) {
            // A fault may stand behind items that are sound: those are taken back.
            world.become(before);
        }
        return items;
    }

    // ---- spots, sheets

    public int hold(int spot, int paper, int mark) {
        if (!isSpot(spot) || !isPaper(paper) || mark != -1 && !isMark(paper, mark)) {
            return finding(BEYOND);
        }
        world.spotPapers[spot] = paper;
        world.spotMarks[spot] = mark;
        return 1;
    }

    public int as(int spot, int kind) {
        if (!isSpot(spot) || !isKind(kind)) {
            return finding(BEYOND);
        }
        int paper = world.spotPapers[spot];
        int mark = world.spotMarks[spot];
        if (!isMark(paper, mark)) {
            return finding(MISSING);
        }
        if (!isOfKind(world.papers[paper].kinds[mark], kind)) {
            return finding(KIND);
        }
        return 100 * paper + mark;
    }

    public int sheet(int s, int bits, int n) {
        if (!isSheet(s) || bits != 0 && bits != 8 && bits != 16 && bits != 32) {
            return finding(BEYOND);
        }
        if (n < 0) {
            return finding(SIZE);
        }
        if (n > MOST_NUMBERS) {
            return finding(BEYOND);
        }
        sheets[s].begin(bits, n);
        return sheets[s].size;
    }

    public int put(int s, int i, int v) {
        if (!isSheet(s)) {
            return finding(BEYOND);
        }
        if (sheets[s].isMissing()) {
            return finding(MISSING);
        }
        if (!within(i, 0, sheets[s].size - 1)) {
            return finding(BEYOND);
        }
        sheets[s].set(i, v);
        return 1;
    }

    public int copy(int s, int from, int t, int to, int n) {
        if (!isSheet(s) || !isSheet(t)) {
            return finding(BEYOND);
        }
        if (sheets[s].isMissing() || sheets[t].isMissing()) {
            return finding(MISSING);
        }
        if (sheets[s].bits != sheets[t].bits) {
            return finding(KIND);
        }
        if (!sheets[s].hasRange(from, n) || !sheets[t].hasRange(to, n)) {
            return finding(BEYOND);
        }
        System.arraycopy(sheets[s].numbers, from, sheets[t].numbers, to, n);
        return n;
    }

    public int load(int s, int paper, int ink) {
        if (!isSheet(s)) {
            return finding(BEYOND);
        }
        Sheet source = sheets[s];
        if (source.isMissing()) {
            return finding(MISSING);
        }
        if (!isPaper(paper) || !isInk(ink)) {
            return finding(BEYOND);
        }
        Paper page = world.papers[paper];
        int came = 0;
        while (came < source.size && !page.isFull() && isMarkNumber(source.numbers[came])) {
            int number = source.numbers[came];
            page.add(number / 10, number % 10, ink, world.now);
            came++;
        }
        return came;
    }

    public int judge(int s, int paper, int hour) {
        if (!isSheet(s)) {
            return finding(BEYOND);
        }
        Sheet told = sheets[s];
        if (told.isMissing()) {
            return finding(MISSING);
        }
        if (!isPaper(paper) || !isHour(hour)) {
            return finding(BEYOND);
        }
        Course course = reckoned(paper);
        for (int i = 0; i < told.size; i++) {
            if (hour + i > LAST_HOUR || course.meaningAt(hour + i) != told.numbers[i]) {
                return 1 + i;
            }
        }
        return 0;
    }

    // ---- images

    public int image() {
        kept.become(world);
        isKept = true;
        return 1;
    }

    public int undo() {
        if (!isKept) {
            return finding(NONE);
        }
        world.become(kept);
        return world.now;
    }

    public int tear() {
        boolean was = isKept;
        isKept = false;
        return was ? 1 : 0;
    }

    public int count(int what) {
        switch (what) {
            case 0:
                return world.now;
            case 1:
                return marksInAll();
            case 2:
                return marksSeenNow();
            case 3:
                return papersWithMeaning();
            case 4:
                return tape.size;
            case 5:
                return world.z;
            case 6:
                return world.fullSpots();
            default:
                return finding(BEYOND);
        }
    }

    public int status(int which) {
        if (!within(which, -1, FINDINGS - 1)) {
            return finding(BEYOND);
        }
        if (which >= 0) {
            return findings[which];
        }
        int all = 0;
        for (int i = 0; i < FINDINGS; i++) {
            all += findings[i];
        }
        return all;
    }

    // ---- what the calls share

    private int finding(int which) {
        findings[which]++;
        return LOW - which;
    }

    private static boolean within(int v, int least, int most) {
        return v >= least && v <= most;
    }

    private static boolean isHour(int hour) {
        return within(hour, 0, LAST_HOUR);
    }

    private static boolean isInk(int ink) {
        return within(ink, 0, INKS - 1);
    }

    private static boolean isPaper(int paper) {
        return within(paper, 0, PAPERS - 1);
    }

    private static boolean isKind(int kind) {
        return within(kind, 0, KINDS - 1);
    }

    private static boolean isLetter(int letter) {
        return within(letter, 0, LETTERS - 1);
    }

    private static boolean isSpot(int spot) {
        return within(spot, 0, SPOTS - 1);
    }

    private static boolean isSheet(int s) {
        return within(s, 0, SHEETS - 1);
    }

    private boolean isMark(int paper, int mark) {
        return isPaper(paper) && within(mark, 0, world.papers[paper].size - 1);
    }

    private static boolean isMarkNumber(int number) {
        return number >= 0 && isKind(number / 10) && isLetter(number % 10);
    }

    private static boolean isOfKind(int kind, int wanted) {
        int above = kind;
        for (int i = 0; i < KINDS && above >= 0; i++) {
            if (above == wanted) {
                return true;
            }
            above = KIND_ABOVE[above];
        }
        return false;
    }

    private static boolean isAmong(int[] row, int size, int v) {
        for (int i = 0; i < size; i++) {
            if (row[i] == v) {
                return true;
            }
        }
        return false;
    }

    private static int exchange(int[] row, int i, int v) {
        int was = row[i];
        row[i] = v;
        return was;
    }

    private Course reckoned(int paper) {
        courses[paper].reckon();
        return courses[paper];
    }

    private int cheapestPair(Course course, int one, int other, int last) {
        int best = -1;
        int bestPrice = 2 * MOST_PRICE + 1;
        for (int first = 0; first < INKS; first++) {
            for (int second = 0; second < INKS; second++) {
                int price = world.prices[first] + world.prices[second];
                if (price < bestPrice) {
                    course.ends[one] = course.endOf(one, world.lasts[first], world.now);
                    course.ends[other] = course.endOf(other, world.lasts[second], world.now);
                    if (course.keeps(world.now, last)) {
                        best = 10 * first + second;
                        bestPrice = price;
                    }
                }
            }
        }
        return best;
    }

    /** The first hour from which a plain word's ink still shows at an hour; all earlier ones are gone. */
    private int firstUnfaded(int paper, int ink, int hour) {
        boolean lit = world.papers[paper].lit;
        int wear = wearBefore(lit, hour) - world.lasts[ink] + 1;
        return wear <= 0 ? 0 : hourOfWear(lit, wear);
    }

    private int marksInAll() {
        int marks = 0;
        for (int p = 0; p < PAPERS; p++) {
            marks += world.papers[p].size;
        }
        return marks;
    }

    private int marksSeenNow() {
        int marks = 0;
        for (int p = 0; p < PAPERS; p++) {
            marks += Integer.bitCount(reckoned(p).seenAt(world.now));
        }
        return marks;
    }

    private int papersWithMeaning() {
        int papers = 0;
        for (int p = 0; p < PAPERS; p++) {
            if (reckoned(p).meaningAt(world.now) != NO_MEANING) {
                papers++;
            }
        }
        return papers;
    }

    // ---- how ink wears

    /** How long a mark of a kind stays in an ink that lasts so long. */
    private static int span(int kind, int lasts) {
        if (kind == BOLD) {
            return 2 * lasts;
        }
        return kind == FAINT ? Math.max(1, lasts / 2) : lasts;
    }

    /** What the hours from 0 up to one (it not) count: ages are differences of this. */
    private static int wearBefore(boolean lit, int hour) {
        if (!lit) {
            return hour;
        }
        int twice = Math.min(12, Math.max(0, hour % 24 - 6));
        return hour + 12 * (hour / 24) + twice;
    }

    /** The first hour by which so much has been worn: wearBefore turned round. */
    private static int hourOfWear(boolean lit, int wear) {
        if (!lit) {
            return wear;
        }
        int day = 24 * (wear / 36);
        int rest = wear % 36;
        if (rest <= 6) {
            return day + rest;
        }
        return rest <= 30 ? day + 6 + (rest - 5) / 2 : day + rest - 12;
    }

    /** One paper: its marks in rows, by their numbers. */
    private static final class Paper {
        final int[] kinds = new int[MOST_MARKS];
        final int[] letters = new int[MOST_MARKS];
        final int[] inks = new int[MOST_MARKS];
        final int[] ats = new int[MOST_MARKS];
        int size = 0;
        boolean lit = false;

        boolean isFull() {
            return size >= MOST_MARKS;
        }

        void add(int kind, int letter, int ink, int hour) {
            if (isFull()) {
                return;
            }
            kinds[size] = kind;
            letters[size] = letter;
            inks[size] = ink;
            ats[size] = hour;
            size++;
        }

        void drop(int mark) {
            for (int k = mark; k < size - 1; k++) {
                kinds[k] = kinds[k + 1];
                letters[k] = letters[k + 1];
                inks[k] = inks[k + 1];
                ats[k] = ats[k + 1];
            }
            size--;
        }

        void become(Paper other) {
            for (int k = 0; k < other.size; k++) {
                kinds[k] = other.kinds[k];
                letters[k] = other.letters[k];
                inks[k] = other.inks[k];
                ats[k] = other.ats[k];
            }
            size = other.size;
            lit = other.lit;
        }
    }

    /** All that an image keeps. */
    private static final class World {
        final int[] lasts = new int[INKS];
        final int[] prices = new int[INKS];
        final Paper[] papers = new Paper[PAPERS];
        final int[] spotPapers = new int[SPOTS];
        final int[] spotMarks = new int[SPOTS];
        int now = 0;
        int z = 1;

        World() {
            for (int i = 0; i < INKS; i++) {
                lasts[i] = 24;
                prices[i] = 1;
            }
            for (int p = 0; p < PAPERS; p++) {
                papers[p] = new Paper();
            }
            for (int i = 0; i < SPOTS; i++) {
                spotMarks[i] = -1;
            }
        }

        void become(World other) {
            System.arraycopy(other.lasts, 0, lasts, 0, INKS);
            System.arraycopy(other.prices, 0, prices, 0, INKS);
            System.arraycopy(other.spotPapers, 0, spotPapers, 0, SPOTS);
            System.arraycopy(other.spotMarks, 0, spotMarks, 0, SPOTS);
            for (int p = 0; p < PAPERS; p++) {
                papers[p].become(other.papers[p]);
            }
            now = other.now;
            z = other.z;
        }

        /** Behind a mark that was scratched out all have one number less. */
        void freeSpots(int paper, int mark) {
            for (int i = 0; i < SPOTS; i++) {
                if (spotPapers[i] == paper && spotMarks[i] == mark) {
                    spotMarks[i] = -1;
                } else if (spotPapers[i] == paper && spotMarks[i] > mark) {
                    spotMarks[i]--;
                }
            }
        }

        int fullSpots() {
            int full = 0;
            for (int i = 0; i < SPOTS; i++) {
                if (spotMarks[i] >= 0) {
                    full++;
                }
            }
            return full;
        }

        int draw() {
            z = z * 1103515245 + 12345;
            return z >>> 8;
        }
    }

    /** A sentence taken in mark by mark, without a tree: or of ands of letters. */
    private static final class Sentence {
        private int ored;
        private int anded;
        private boolean turned;
        private boolean wantsLetter;
        private boolean broken;

        void begin() {
            ored = 0;
            anded = ALL_TRUTHS;
            turned = false;
            wantsLetter = true;
            broken = false;
        }

        void take(int kind, int letter) {
            if (kind == MARK) {
                return;
            }
            boolean joins = kind == JOIN || kind == OR;
            if (joins == wantsLetter) {
                broken = true;
            } else if (kind == NO) {
                turned = !turned;
            } else if (joins) {
                if (kind == OR) {
                    ored |= anded;
                    anded = ALL_TRUTHS;
                }
                wantsLetter = true;
            } else {
                int truths = TRUTHS_OF_LETTER[letter];
                anded &= turned ? ALL_TRUTHS ^ truths : truths;
                turned = false;
                wantsLetter = false;
            }
        }

        int meaning() {
            return broken || wantsLetter ? NO_MEANING : ored | anded;
        }
    }

    /** When the marks of a paper go, and what it means from hour to hour. */
    private static final class Course {
        private static final int MOST_STEPS = 2 * MOST_MARKS;
        final Paper paper;
        final int[] lasts;
        final int[] ends = new int[MOST_MARKS];
        private final Sentence sentence = new Sentence();

        Course(Paper paper, int[] lasts) {
            this.paper = paper;
            this.lasts = lasts;
        }

        void reckon() {
            for (int k = 0; k < paper.size; k++) {
                ends[k] = endOf(k, lasts[paper.inks[k]], paper.ats[k]);
            }
        }

        /** When a mark goes that is written at an hour in an ink that lasts so long. */
        int endOf(int mark, int inkLasts, int from) {
            int worn = wearBefore(paper.lit, from) + span(paper.kinds[mark], inkLasts);
            return hourOfWear(paper.lit, worn);
        }

        int seenAt(int hour) {
            int set = 0;
            for (int k = 0; k < paper.size; k++) {
                if (paper.ats[k] <= hour && hour < ends[k]) {
                    set |= 1 << k;
                }
            }
            return set;
        }

        int meaningOf(int set) {
            sentence.begin();
            for (int k = 0; k < paper.size; k++) {
                if ((set >> k & 1) != 0) {
                    sentence.take(paper.kinds[k], paper.letters[k]);
                }
            }
            return sentence.meaning();
        }

        int meaningWith(int set, int place, int choice) {
            sentence.begin();
            for (int k = 0; k <= paper.size; k++) {
                if (k == place) {
                    sentence.take(MORE_KINDS[choice], MORE_LETTERS[choice]);
                }
                if (k < paper.size && (set >> k & 1) != 0) {
                    sentence.take(paper.kinds[k], paper.letters[k]);
                }
            }
            return sentence.meaning();
        }

        int meaningAt(int hour) {
            return meaningOf(seenAt(hour));
        }

        /** The first hour behind one at which a mark comes or goes, at most the one behind the last. */
        private int stepBehind(int hour) {
            int step = LAST_HOUR + 1;
            for (int k = 0; k < paper.size; k++) {
                if (paper.ats[k] > hour) {
                    step = Math.min(step, paper.ats[k]);
                }
                if (ends[k] > hour) {
                    step = Math.min(step, ends[k]);
                }
            }
            return step;
        }

        /** The first hour behind one with another meaning; the one behind last, if there is none by then. */
        int changeBehind(int hour, int last) {
            int held = meaningAt(hour);
            int step = stepBehind(hour);
            for (int i = 0; i < MOST_STEPS && step <= last; i++) {
                if (meaningAt(step) != held) {
                    return step;
                }
                step = stepBehind(step);
            }
            return last + 1;
        }

        boolean keeps(int hour, int last) {
            return changeBehind(hour, last) > last;
        }

        /** How many hours, both ends counted, have another meaning than the hour ahead of them. */
        int changesWithin(int from, int to) {
            int found = 0;
            // The first hour counts as well, so the one ahead of it is looked at; ahead of 0 there is none.
            int hour = changeBehind(Math.max(0, from - 1), to);
            for (int i = 0; i < MOST_STEPS && hour <= to; i++) {
                found++;
                hour = changeBehind(hour, to);
            }
            return found;
        }

        int firstWith(int meaning, int from) {
            int hour = from;
            for (int i = 0; i <= MOST_STEPS && hour <= LAST_HOUR; i++) {
                if (meaningAt(hour) == meaning) {
                    return hour;
                }
                hour = stepBehind(hour);
            }
            return LAST_HOUR + 1;
        }

        int hoursWith(int meaning, int from) {
            int found = 0;
            int hour = from;
            for (int i = 0; i <= MOST_STEPS && hour <= LAST_HOUR; i++) {
                int next = stepBehind(hour);
                if (meaningAt(hour) == meaning) {
                    found += next - hour;
                }
                hour = next;
            }
            return found;
        }

        /** The least lasts of an ink that keeps the meaning; -1 if none does. */
        int leastLasts(int ink, int now, int last) {
            int held = meaningAt(now);
            for (int v = 1; v <= MOST_LASTS; v++) {
                for (int k = 0; k < paper.size; k++) {
                    if (paper.inks[k] == ink) {
                        ends[k] = endOf(k, v, paper.ats[k]);
                    }
                }
                if (meaningAt(now) == held && keeps(now, last)) {
                    return v;
                }
            }
            return -1;
        }
    }

    /** Which marks to copy, so that a meaning stays: rows by the hours at which a mark may go. */
    private static final class Copies {
        private final int[] copyEnds = new int[MOST_MARKS];
        private final int[] steps = new int[2 * MOST_MARKS];
        private final int[] leftAsWritten = new int[2 * MOST_MARKS];
        private final int[] leftIfCopied = new int[2 * MOST_MARKS];
        private int size = 0;

        /** The least set of the fewest marks by which the meaning stays; -1 if there is none. */
        int smallestSet(Course course, int inkLasts, int now, int last) {
            int seen = course.seenAt(now);
            int held = course.meaningOf(seen);
            laySteps(course, seen, inkLasts, now, last);
            int useful = laySets(course, seen);
            int best = -1;
            int bestCount = MOST_MARKS + 1;
            for (int set = 0; set <= useful; set++) {
                if ((set & ~useful) == 0 && Integer.bitCount(set) < bestCount
                        && keepsWith(course, set, held)) {
                    best = set;
                    bestCount = Integer.bitCount(set);
                }
            }
            return best;
        }

        private void laySteps(Course course, int seen, int inkLasts, int now, int last) {
            size = 0;
            for (int k = 0; k < course.paper.size; k++) {
                if ((seen >> k & 1) != 0) {
                    copyEnds[k] = course.endOf(k, inkLasts, now);
                    addStep(course.ends[k], last);
                    addStep(copyEnds[k], last);
                }
            }
        }

        private void addStep(int hour, int last) {
            if (hour <= last && size < steps.length && !isAmong(steps, size, hour)) {
                steps[size] = hour;
                size++;
            }
        }

        /** Gives the marks for which copying makes a difference at all. */
        private int laySets(Course course, int seen) {
            int useful = 0;
            for (int i = 0; i < size; i++) {
                leftAsWritten[i] = leftAt(steps[i], course.ends, course.paper.size) & seen;
                leftIfCopied[i] = leftAt(steps[i], copyEnds, course.paper.size) & seen;
                useful |= leftAsWritten[i] ^ leftIfCopied[i];
            }
            return useful;
        }

        private static int leftAt(int hour, int[] ends, int marks) {
            int set = 0;
            for (int k = 0; k < marks; k++) {
                if (hour < ends[k]) {
                    set |= 1 << k;
                }
            }
            return set;
        }

        private boolean keepsWith(Course course, int set, int held) {
            for (int i = 0; i < size; i++) {
                int left = leftAsWritten[i] & ~set | leftIfCopied[i] & set;
                if (course.meaningOf(left) != held) {
                    return false;
                }
            }
            return true;
        }
    }

    /** The bytes of a text, and the token of it that is being looked at. */
    private static final class Tape {
        static final int END = 0;
        static final int NAME = 1;
        static final int NUMBER = 2;
        static final int SEMICOLON = 3;
        static final int STRANGE = 4;
        private final int[] bytes = new int[MOST_BYTES];
        private int end = 0;
        int size = 0;
        int start = 0;
        int token = END;
        int number = 0;

        void add(int v) {
            if (size < MOST_BYTES) {
                bytes[size] = v;
                size++;
            }
        }

        void toFirst() {
            end = 0;
            toNext();
        }

        void toNext() {
            start = end;
            while (start < size && bytes[start] == ' ') {
                start++;
            }
            end = start;
            number = 0;
            while (end < size && isSmallLetter(bytes[end])) {
                end++;
            }
            if (end > start) {
                token = NAME;
                return;
            }
            while (end < size && isDigit(bytes[end])) {
                // Above 9999 it is no number that is allowed, however it goes on: it need not grow.
                if (number <= 9999) {
                    number = 10 * number + bytes[end] - '0';
                }
                end++;
            }
            if (end > start) {
                token = NUMBER;
            } else if (start >= size) {
                token = END;
            } else {
                token = bytes[start] == ';' ? SEMICOLON : STRANGE;
                end = start + 1;
            }
        }

        private static boolean isSmallLetter(int v) {
            return v >= 'a' && v <= 'z';
        }

        private static boolean isDigit(int v) {
            return v >= '0' && v <= '9';
        }

        boolean isName(String name) {
            if (token != NAME || end - start != name.length()) {
                return false;
            }
            for (int i = 0; i < name.length(); i++) {
                if (bytes[start + i] != name.charAt(i)) {
                    return false;
                }
            }
            return true;
        }

        /** 0 to 3, if the token is one of a to d, else -1. */
        int letter() {
            if (token != NAME || end - start != 1 || bytes[start] > 'd') {
                return -1;
            }
            return bytes[start] - 'a';
        }
    }

    /** Reads a text into a world; where it fails, the tape's token is the one at fault. */
    private static final class Text {
        private final Tape tape;
        private final World world;
        private int number = 0;

        Text(Tape tape, World world) {
            this.tape = tape;
            this.world = world;
        }

        /** How many items there are, or -1 less the fault. */
        int readItems() {
            tape.toFirst();
            for (int items = 1; items <= MOST_BYTES && readItem(); items++) {
                if (tape.token == Tape.END) {
                    return items;
                }
                if (tape.token != Tape.SEMICOLON) {
                    break;
                }
                tape.toNext();
            }
            return -1 - tape.start;
        }

        private boolean readItem() {
            if (passName("ink")) {
                return readInk();
            }
            if (passName("paper")) {
                return readPaper();
            }
            return passName("on") && readOn();
        }

        private boolean readInk() {
            if (!passNumber(0, INKS - 1)) {
                return false;
            }
            int ink = number;
            if (!passName("lasts") || !passNumber(1, MOST_LASTS)) {
                return false;
            }
            world.lasts[ink] = number;
            if (!passName("price")) {
                return true;
            }
            if (!passNumber(0, MOST_PRICE)) {
                return false;
            }
            world.prices[ink] = number;
            return true;
        }

        private boolean readPaper() {
            if (!passNumber(0, PAPERS - 1)) {
                return false;
            }
            Paper page = world.papers[number];
            if (passName("light")) {
                page.lit = true;
                return true;
            }
            if (passName("dark")) {
                page.lit = false;
                return true;
            }
            return false;
        }

        private boolean readOn() {
            if (!passNumber(0, PAPERS - 1)) {
                return false;
            }
            Paper page = world.papers[number];
            int ink = 0;
            if (passName("ink")) {
                if (!passNumber(0, INKS - 1)) {
                    return false;
                }
                ink = number;
            }
            int marks = 0;
            for (int kind = kindOfName(); kind >= 0 && marks < MOST_BYTES; kind = kindOfName()) {
                if (page.isFull() || !readMark(page, kind, ink)) {
                    return false;
                }
                marks++;
            }
            return marks > 0;
        }

        private int kindOfName() {
            if (tape.letter() >= 0) {
                return WORD;
            }
            if (tape.isName("not")) {
                return NO;
            }
            if (tape.isName("and")) {
                return JOIN;
            }
            if (tape.isName("or")) {
                return OR;
            }
            if (tape.isName("bold")) {
                return BOLD;
            }
            if (tape.isName("faint")) {
                return FAINT;
            }
            return tape.isName("blot") ? MARK : -1;
        }

        private boolean readMark(Paper page, int kind, int ink) {
            if (kind == BOLD || kind == FAINT) {
                tape.toNext();
            }
            int letter = 0;
            if (isOfKind(kind, WORD)) {
                letter = tape.letter();
                if (letter < 0) {
                    return false;
                }
            }
            page.add(kind, letter, ink, world.now);
            tape.toNext();
            return true;
        }

        private boolean passName(String name) {
            boolean is = tape.isName(name);
            if (is) {
                tape.toNext();
            }
            return is;
        }

        private boolean passNumber(int least, int most) {
            boolean is = tape.token == Tape.NUMBER && within(tape.number, least, most);
            if (is) {
                number = tape.number;
                tape.toNext();
            }
            return is;
        }
    }

    /** A row of numbers of so many bits; of 0 bits it is missing. */
    private static final class Sheet {
        final int[] numbers = new int[MOST_NUMBERS];
        int bits = 0;
        int size = 0;

        boolean isMissing() {
            return bits == 0;
        }

        void begin(int newBits, int n) {
            bits = newBits;
            size = newBits == 0 ? 0 : n;
            for (int i = 0; i < size; i++) {
                numbers[i] = 0;
            }
        }

        void set(int i, int v) {
            if (bits == 8) {
                numbers[i] = (byte) v;
            } else {
                numbers[i] = bits == 16 ? (short) v : v;
            }
        }

        boolean hasRange(int from, int n) {
            return from >= 0 && n >= 0 && n <= size && from <= size - n;
        }
    }
}
