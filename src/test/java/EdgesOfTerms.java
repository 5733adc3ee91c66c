/** Under "Terms": FINDINGS and the order in which they are asked, and what holds of all calls. */
final class EdgesOfTerms {
    private EdgesOfTerms() { }

    static void ask(Edges e) {
        findings(e);
        anyZ(e);
        order(e);
        nothingChanges(e);
        e.terms("Quotients are cut.");
        int[][] halves = {{999, 499}, {7, 3}, {3, 1}, {2, 1}, {998, 499}};
        for (int[] h : halves) {
            InkHours x = Scenes.of("ink 0 lasts " + h[0] + ";on 0 faint a");
            e.is("STAYS of a FAINT one in an INK that LASTS " + h[0], x.markOf(0, 0, 4), h[1]);
        }
        e.terms("Sets are told as bits;");
        InkHours x = Scenes.of("ink 1 lasts 5;on 0 a;on 0 ink 1 b;on 0 c;on 0 ink 1 d");
        e.is("MARKS 0 to 3", x.seen(0, 4), 15);
        e.is("MARKS 0 and 2", x.seen(0, 5), 5);
        e.is("fewest of MARKS 0 to 11", Scenes.of("ink 1 lasts 90;on 0 not a and b or not b and c and not d").fewest(0, 1, 80), 4095);
        leastNumber(e);
    }

    private static void findings(Edges e) {
        e.terms("FINDINGS are answers below -1000000: LOW is -1000001;");
        e.is("the first one", new InkHours().hours(0), -1000001);
        e.terms("LOW BEYOND, LOW - 1 FULL, LOW - 2 KIND, LOW - 3 NONE, LOW - 4 STATE, LOW - 5 MISSING, LOW - 6 SIZE.");
        e.is("BEYOND", Scenes.rich().light(4, true), -1000001);
        e.is("FULL", Scenes.rich().write(3, 0, 0, 0), -1000002);
        e.is("KIND", Scenes.rich().as(0, 2), -1000003);
        e.is("NONE", new InkHours().undo(), -1000004);
        e.is("STATE", Scenes.rich().clerk(2, 1, 0), -1000005);
        e.is("MISSING", Scenes.rich().put(3, 0, 0), -1000006);
        e.is("SIZE", Scenes.rich().sheet(0, 8, -1), -1000007);
    }

    private static void anyZ(Edges e) {
        e.terms("What seed() and count(5) tell, z, may be any int: that is no finding.");
        int[] any = {-1000001, -1000002, -1000003, -1000004, -1000005, -1000006, -1000007, -1, 0, Integer.MIN_VALUE, Integer.MAX_VALUE};
        InkHours x = new InkHours();
        for (int v : any) {
            x.seed(v);
            e.is("count(5)", x.count(5), v);
            e.is("seed(1)", x.seed(1), v);
        }
        for (int which = -1; which <= 6; which++) e.is("status(" + which + ")", x.status(which), 0);
    }

    private static InkHours fullTape() {
        InkHours x = Scenes.rich();
        for (int i = 0; i < 23; i++) x.feed(0, 4);
        return x;
    }

    private static InkHours atTheEnd() {
        InkHours x = Scenes.rich();
        Scenes.go(x, 9979);
        return x;
    }

    private static void order(Edges e) {
        e.terms("Each act tells its findings in the order in which they are asked (that of its words);");
        e.refuses("hours: BEYOND, then STATE", EdgesOfTerms::atTheEnd, Due.BEYOND, x -> x.hours(1001));
        e.refuses("write: BEYOND, then FULL", Scenes::rich, Due.BEYOND, x -> x.write(3, 1, 0, 8));
        e.refuses("write: BEYOND, then FULL", Scenes::rich, Due.BEYOND, x -> x.write(3, 7, 0, 0));
        e.refuses("write: BEYOND, then FULL", Scenes::rich, Due.BEYOND, x -> x.write(3, 1, 4, 0));
        e.refuses("age: BEYOND, then STATE", Scenes::rich, Due.BEYOND, x -> x.age(0, 6, 0));
        e.refuses("age: BEYOND, then STATE", Scenes::rich, Due.BEYOND, x -> x.age(0, 0, -1));
        e.refuses("says: BEYOND, then NONE", Scenes::rich, Due.BEYOND, x -> x.says(2, 20, 16));
        e.refuses("stays: BEYOND, then STATE", Scenes::rich, Due.BEYOND, x -> x.stays(4, 0));
        e.refuses("stays: BEYOND, then STATE", Scenes::rich, Due.BEYOND, x -> x.stays(0, -1));
        e.refuses("cheapest: BEYOND, then STATE", EdgesOfTerms::atTheEnd, Due.BEYOND, x -> x.cheapest(0, 0, 1, 201));
        e.refuses("cheapest: BEYOND, then STATE", EdgesOfTerms::atTheEnd, Due.BEYOND, x -> x.cheapest(0, 0, 6, 1));
        e.refuses("cheapest: STATE, then NONE", EdgesOfTerms::atTheEnd, Due.STATE, x -> x.cheapest(0, 0, 1, 200));
        e.refuses("fewest: BEYOND, then STATE", EdgesOfTerms::atTheEnd, Due.BEYOND, x -> x.fewest(0, 8, 1));
        e.refuses("fewest: STATE, then NONE", EdgesOfTerms::atTheEnd, Due.STATE, x -> x.fewest(0, 0, 100));
        e.refuses("lasting: BEYOND, then STATE", EdgesOfTerms::atTheEnd, Due.BEYOND, x -> x.lasting(0, 8, 1));
        e.refuses("lasting: STATE, then NONE", EdgesOfTerms::atTheEnd, Due.STATE, x -> x.lasting(0, 0, 100));
        e.refuses("latest: BEYOND, then NONE", Scenes::rich, Due.BEYOND, x -> x.latest(0, 8, 0));
        e.refuses("clerk: BEYOND, then STATE", Scenes::rich, Due.BEYOND, x -> x.clerk(2, 13, 0));
        e.refuses("clerk: BEYOND, then STATE", Scenes::rich, Due.BEYOND, x -> x.clerk(2, 1, 8));
        e.refuses("feed: BEYOND, then FULL", EdgesOfTerms::fullTape, Due.BEYOND, x -> x.feed(0, 5));
        e.refuses("as: BEYOND, then MISSING", Scenes::rich, Due.BEYOND, x -> x.as(1, 7));
        e.refuses("sheet: BEYOND (bits), then SIZE", Scenes::rich, Due.BEYOND, x -> x.sheet(0, 9, -1));
        e.refuses("sheet: BEYOND (no such one), then SIZE", Scenes::rich, Due.BEYOND, x -> x.sheet(4, 8, -1));
        e.refuses("put: BEYOND (no such sheet), then MISSING", Scenes::rich, Due.BEYOND, x -> x.put(4, 0, 0));
        e.refuses("put: MISSING, then BEYOND (no such number)", Scenes::rich, Due.MISSING, x -> x.put(3, -1, 0));
        e.refuses("copy: BEYOND (no such sheet), then MISSING", Scenes::rich, Due.BEYOND, x -> x.copy(3, 0, 4, 0, 0));
        e.refuses("copy: BEYOND (no such sheet), then MISSING", Scenes::rich, Due.BEYOND, x -> x.copy(-1, 0, 3, 0, 0));
        e.refuses("copy: MISSING, then KIND", Scenes::rich, Due.MISSING, x -> x.copy(0, 0, 3, 0, 1));
        e.refuses("copy: MISSING, then BEYOND", Scenes::rich, Due.MISSING, x -> x.copy(3, -1, 3, 0, 1));
        e.refuses("copy: KIND, then BEYOND", Scenes::rich, Due.KIND, x -> x.copy(0, -1, 1, 0, 1));
        e.refuses("load: BEYOND (no such sheet), then MISSING", Scenes::rich, Due.BEYOND, x -> x.load(4, 0, 0));
        e.refuses("load: MISSING, then BEYOND (paper)", Scenes::rich, Due.MISSING, x -> x.load(3, 4, 0));
        e.refuses("load: MISSING, then BEYOND (ink)", Scenes::rich, Due.MISSING, x -> x.load(3, 0, 8));
        e.refuses("judge: MISSING, then BEYOND (paper)", Scenes::rich, Due.MISSING, x -> x.judge(3, 4, 0));
        e.refuses("judge: MISSING, then BEYOND (hour)", Scenes::rich, Due.MISSING, x -> x.judge(3, 0, 10000));
    }

    private static void nothingChanges(Edges e) {
        e.terms("one that answers a finding changes nothing but status().");
        e.refuses("light", Scenes::rich, Due.BEYOND, x -> x.light(-1, false));
        e.refuses("write", Scenes::rich, Due.FULL, x -> x.write(3, 1, 1, 1));
        e.refuses("as", Scenes::rich, Due.KIND, x -> x.as(0, 2));
        e.refuses("shows", Scenes::rich, Due.NONE, x -> x.shows(0, 0));
        e.refuses("clerk, without a draw", Scenes::rich, Due.STATE, x -> x.clerk(2, 12, 0));
        e.refuses("load", Scenes::rich, Due.MISSING, x -> x.load(3, 0, 0));
        e.refuses("sheet", Scenes::rich, Due.SIZE, x -> x.sheet(0, 0, -1));
        e.refuses("undo, without an image", () -> Scenes.of("on 0 a"), Due.NONE, InkHours::undo);
    }

    private static void leastNumber(Edges e) {
        e.terms("of several that would do the least number counts, where nothing else is told.");
        InkHours x = Scenes.of("ink 1 lasts 90;on 0 a or a or a");
        e.is("fewest: MARK 0, 2 or 4 would do", x.fewest(0, 1, 80), 1);
        e.is("cheapest: any two INKS would do", x.cheapest(0, 0, 2, 10), 0);
        e.is("forge: a NO at place 0 or 1 would do", Scenes.of("on 0 not a").forge(0, Due.A), 20);
        e.is("forge: a at place 0 (210 would do, too)", Scenes.of("on 0 and a").forge(0, Due.A), 10);
        e.is("lasting: 5 and all above", Scenes.of("on 0 a").lasting(0, 0, 4), 5);
    }
}
