/** Each promise of the document by itself: ordinary calls, the edges it names, and wrong ones. */
public final class PromisesTest {
    private static final int NONE = -1, BAD = -2, NOT = -3, FULL = -4;
    private static final int NULL = -11, INDEX = -12, CAST = -13, STORE = -14, SIZE = -15;
    private static final int LEAST = Integer.MIN_VALUE, MOST = Integer.MAX_VALUE;
    private static final long BAD_LONG = Long.MIN_VALUE + 2;

    // 0-1-2-5-8-7-6-3 is one long path; 4 stands alone.
    private static final String SNAIL = "rrd;d.d;rr.";
    // 4 is open to 1, 3, 5 and 7; the corners stand alone.
    private static final String CROSS = ".d.;rb.;...";
    private static final String ALL_OPEN = "bbbbbb;bbbbbb;bbbbbb;bbbbbb;bbbbbb;bbbbbb";

    private static int wrong = 0;
    private static int promise = 0;

    private static void due(String what, long got, long want) {
        if (got != want) {
            wrong++;
            System.out.println("promise " + promise + ": " + what + " answered " + got + ", due is " + want);
        }
    }

    private static void type(MazeCalendar x, int text, String signs) {
        for (char c : signs.toCharArray()) x.type(text, c);
    }

    private static MazeCalendar with(String maze, String walkers) {
        MazeCalendar x = new MazeCalendar();
        type(x, 0, maze);
        type(x, 1, walkers);
        return x;
    }

    private static MazeCalendar with(String maze) {
        return with(maze, "");
    }

    private static void newObject() {
        MazeCalendar x = new MazeCalendar();
        for (int what = 0; what <= 8; what++) due("count " + what, x.count(what), 0);
        for (int s = 0; s < 4; s++) due("lose of a new one", x.lose(s), NULL);
        due("NONE", MazeCalendar.NONE, NONE);
        due("BAD", MazeCalendar.BAD, BAD);
        due("NOT", MazeCalendar.NOT, NOT);
        due("FULL", MazeCalendar.FULL, FULL);
    }

    private static void type() {
        MazeCalendar x = new MazeCalendar();
        due("byte 0", x.type(0, 0), 1);
        due("byte 255", x.type(0, 255), 2);
        due("byte -1", x.type(0, -1), BAD);
        due("byte 256", x.type(0, 256), BAD);
        due("text -1", x.type(-1, 46), BAD);
        due("text 2", x.type(2, 46), BAD);
        due("nothing changed", x.count(3), 2);
        for (int n = 3; n <= 41; n++) due("byte " + n, x.type(0, '.'), n);
        due("the 42nd", x.type(0, '.'), FULL);
        due("a bad one ahead of full", x.type(0, 256), BAD);
        for (int n = 1; n <= 39; n++) due("byte " + n, x.type(1, '0'), n);
        due("the 40th", x.type(1, '0'), FULL);
    }

    private static void wipe() {
        MazeCalendar x = with("rr.", "00nl;01sr");
        due("wipe of walkers", x.wipe(1), 9);
        due("walkers left", x.count(2), 0);
        due("days stay", x.count(0), 3);
        due("wipe of the maze", x.wipe(0), 3);
        due("days left", x.count(0), 0);
        due("wipe of nothing", x.wipe(0), 0);
        due("text 2", x.wipe(2), BAD);
        due("text -1", x.wipe(-1), BAD);
    }

    private static void undo() {
        MazeCalendar x = with("r.;", "00nlx");
        due("days behind a row not ended", x.count(0), 0);
        due("undo of the maze", x.undo(0), 2);
        due("days now", x.count(0), 2);
        due("undo of the walkers", x.undo(1), 4);
        due("walkers now", x.count(2), 1);
        x.undo(0);
        due("undo of the last", x.undo(0), 0);
        due("undo of an empty one", x.undo(0), NOT);
        due("text 2", x.undo(2), BAD);
        due("text -1", x.undo(-1), BAD);
    }

    private static void faultOf(int text, String signs, int want) {
        MazeCalendar x = new MazeCalendar();
        type(x, text, signs);
        due("fault of " + signs, x.fault(text), want);
        if (want != NONE) {
            due("as if empty: " + signs, x.count(text == 0 ? 0 : 2), 0);
            due("no rows: " + signs, x.count(1), 0);
        }
    }

    private static void fault() {
        faultOf(0, "", NONE);
        faultOf(0, ".", NONE);
        faultOf(0, ALL_OPEN, NONE);
        faultOf(0, "x", 0);
        faultOf(0, ";", 0);
        faultOf(0, ".;", 2);
        faultOf(0, ".;;", 2);
        faultOf(0, "rr;r", 4);
        faultOf(0, "rr;r;", 4);
        faultOf(0, "rr;r;rr", 4);
        faultOf(0, "r;rr", 3);
        faultOf(0, "rrrrrrr", 6);
        faultOf(0, ".;.;.;.;.;.", NONE);
        faultOf(0, ".;.;.;.;.;.;", 12);
        faultOf(0, ".;.;.;.;.;.;.", 12);
        faultOf(0, ".;.;.;.;.;.;;", 12);
        faultOf(0, "R", 0);
        faultOf(0, "rdb.r\377", 5);
        faultOf(1, "", NONE);
        faultOf(1, "39wa", NONE);
        faultOf(1, "40nl", 0);
        faultOf(1, "/0nl", 0);
        faultOf(1, "3", 1);
        faultOf(1, "3:nl", 1);
        faultOf(1, "00", 2);
        faultOf(1, "00N", 2);
        faultOf(1, "00n", 3);
        faultOf(1, "00nb", 3);
        faultOf(1, "00nl0", 4);
        faultOf(1, "00nl;", 5);
        faultOf(1, "00nl;;", 5);
        faultOf(1, "00nl;00nl;00nl;00nl;00nl;00nl;00nl;00nl", NONE);
        faultOf(1, "00nl;00nl;00nl;00nl;00nl;00nl;00nl;00n;", 38);
        MazeCalendar x = new MazeCalendar();
        due("text 2", x.fault(2), BAD);
        due("text -1", x.fault(-1), BAD);
    }

    private static void walker() {
        MazeCalendar x = with("", "39el;05nr;17sa;20wl");
        int[][] told = {{39, 1, 0}, {5, 0, 1}, {17, 2, 2}, {20, 3, 0}};
        for (int w = 0; w < 4; w++) {
            for (int what = 0; what < 3; what++) due("walker " + w + " " + what, x.walker(w, what), told[w][what]);
        }
        due("walker 4", x.walker(4, 0), BAD);
        due("walker -1", x.walker(-1, 0), BAD);
        due("what 3", x.walker(0, 3), BAD);
        due("what -1", x.walker(0, -1), BAD);
        x.type(1, ';');
        due("of a text with a fault", x.walker(0, 0), BAD);
    }

    private static void hedge() {
        MazeCalendar x = with("bb;bb");
        due("a hedge", x.hedge(3, 0, 0), 1);
        due("ahead of it", x.open(2, 0), 6);
        due("in its step", x.open(3, 0), 4);
        due("from the other side", x.open(3, 1), 4);
        due("for good", x.open(99, 0), 4);
        due("one under", x.hedge(5, 1, 1), 2);
        due("under", x.open(5, 1), 0);
        due("from under", x.open(5, 3), 8);
        due("step 100", x.hedge(100, 0, 0), BAD);
        due("step -1", x.hedge(-1, 0, 0), BAD);
        due("day 36", x.hedge(0, 36, 0), BAD);
        due("day -1", x.hedge(0, -1, 0), BAD);
        due("side 2", x.hedge(0, 0, 2), BAD);
        due("side -1", x.hedge(0, 0, -1), BAD);
        due("a day that there is not", x.hedge(99, 35, 1), 3);
        for (int n = 4; n <= 8; n++) due("hedge " + n, x.hedge(0, 30, 0), n);
        due("a ninth", x.hedge(0, 0, 0), FULL);
        due("bad ahead of full", x.hedge(0, 0, 2), BAD);
        due("how many", x.count(5), 8);
        due("nothing changed", x.open(2, 0), 6);
    }

    private static void gap() {
        MazeCalendar x = with("..;..");
        due("a gap", x.gap(7, 0, 1), 1);
        due("ahead of it", x.open(6, 0), 0);
        due("in its step", x.open(7, 0), 4);
        due("from under", x.open(99, 2), 1);
        due("beyond the edge", x.gap(0, 1, 0), 2);
        due("the next row is not beside", x.open(0, 1), 0);
        due("nor from there", x.open(0, 2), 0);
        due("under the last row", x.gap(0, 3, 1), 3);
        due("is nothing", x.open(0, 3), 0);
        due("a hedge in the same step", x.hedge(7, 0, 1), 1);
        due("the gap counts", x.open(7, 0), 4);
        due("a later hedge", x.hedge(8, 0, 1), 2);
        due("counts", x.open(8, 0), 0);
        due("a later gap", x.gap(9, 0, 1), 4);
        due("counts again", x.open(9, 0), 4);
        due("an earlier hedge that came later", x.hedge(1, 0, 1), 3);
        due("does not count", x.open(9, 0), 4);
        due("step 100", x.gap(100, 0, 0), BAD);
        due("day 36", x.gap(0, 36, 0), BAD);
        due("side 2", x.gap(0, 0, 2), BAD);
        for (int n = 5; n <= 8; n++) due("gap " + n, x.gap(0, 35, 0), n);
        due("a ninth", x.gap(0, 0, 0), FULL);
        due("bad ahead of full", x.gap(-1, 0, 0), BAD);
        x.wipe(0);
        type(x, 0, "..;..;..;..");
        due("in another maze", x.open(0, 3), 4);
    }

    private static void back() {
        MazeCalendar x = with("r.");
        due("no hedge", x.back(0), NOT);
        due("no gap", x.back(1), NOT);
        due("what 2", x.back(2), BAD);
        due("what -1", x.back(-1), BAD);
        x.hedge(0, 5, 0);
        x.hedge(0, 0, 0);
        due("closed", x.open(0, 0), 0);
        x.gap(0, 0, 0);
        due("open", x.open(0, 0), 2);
        due("the gap back", x.back(1), 0);
        due("closed again", x.open(0, 0), 0);
        due("the hedge back", x.back(0), 1);
        due("open again", x.open(0, 0), 2);
        due("the first hedge back", x.back(0), 0);
        due("none is left", x.back(0), NOT);
    }

    private static void read() {
        MazeCalendar x = with("..;..");
        due("lost", x.read(0), NULL);
        due("its finding", x.count(8), 1);
        due("sheet 4", x.read(4), BAD);
        due("sheet -1", x.read(-1), BAD);
        int[] items = {4, 0, 0, 0, 1, 1, 9, 9};
        x.sheet(0, 1, items.length);
        for (int i = 0; i < items.length; i++) x.put(0, 1, i, items[i]);
        due("two whole ones", x.read(0), 2);
        due("gaps", x.count(6), 2);
        due("open", x.open(4, 1), 12);
        due("not yet", x.open(3, 1), 4);
        due("how many came, not how many there are", x.read(0), 2);
        due("gaps now", x.count(6), 4);
        x.sheet(1, 0, 9);
        x.put(1, 0, 4, -1);
        due("as long as each may be", x.read(1), 1);
        due("gaps then", x.count(6), 5);
        x.sheet(2, 2, 60);
        due("until it is full", x.read(2), 3);
        due("full", x.count(6), 8);
        due("none more", x.read(2), 0);
        x.sheet(3, 2, 0);
        due("of an empty one", x.read(3), 0);
        x.back(1);
        x.sheet(3, 2, 2);
        due("of no whole one", x.read(3), 0);
        x.sheet(3, 2, 3);
        x.put(3, 2, 0, 100);
        due("step 100", x.read(3), 0);
        due("gaps at last", x.count(6), 7);
    }

    private static void open() {
        MazeCalendar x = with(CROSS);
        int[] ways = {0, 4, 0, 2, 15, 8, 0, 1, 0};
        for (int d = 0; d < 9; d++) due("open of " + d, x.open(0, d), ways[d]);
        due("in the last step", x.open(99, 4), 15);
        due("step 100", x.open(100, 0), BAD);
        due("step -1", x.open(-1, 0), BAD);
        due("day 9", x.open(0, 9), BAD);
        due("day -1", x.open(0, -1), BAD);
        MazeCalendar edge = with("b");
        due("beyond the edge is nothing", edge.open(0, 0), 0);
        MazeCalendar row = with("rr;rr");
        due("the end of a row", row.open(0, 1), 8);
        due("the beginning of the next", row.open(0, 2), 2);
    }

    private static void onDays(MazeCalendar x, int w, int... days) {
        for (int n = 0; n < days.length; n++) due("walker " + w + " behind " + n, x.on(w, n, 0), days[n]);
    }

    private static void on() {
        MazeCalendar x = with(CROSS, "07nl;07nr;07na;09nl;00wr");
        onDays(x, 0, 7, 4, 3, 4, 1, 4, 5, 4, 7, 4, 3);
        onDays(x, 1, 7, 4, 5, 4, 1, 4, 3, 4, 7, 4, 5);
        onDays(x, 2, 7, 4, 1, 4, 7, 4, 1);
        due("nowhere", x.on(3, 0, 0), NONE);
        due("nowhere has no heading", x.on(3, 99, 1), NONE);
        due("none is open", x.on(4, 99, 0), 0);
        due("it heads as it did", x.on(4, 99, 1), 3);
        due("heading at first", x.on(0, 0, 1), 0);
        due("heading west", x.on(0, 2, 1), 3);
        due("turned back", x.on(0, 3, 1), 1);
        due("behind 99", x.on(2, 99, 0), 4);
        due("walker 5", x.on(5, 0, 0), BAD);
        due("walker -1", x.on(-1, 0, 0), BAD);
        due("steps 100", x.on(0, 100, 0), BAD);
        due("steps -1", x.on(0, -1, 0), BAD);
        due("what 2", x.on(0, 0, 2), BAD);
        due("what -1", x.on(0, 0, -1), BAD);
        due("bad though nowhere", x.on(3, 100, 0), BAD);
        x.hedge(1, 4, 0);
        onDays(x, 1, 7, 4, 1, 4, 3);
        x.hedge(2, 3, 0);
        onDays(x, 0, 7, 4, 3, 3, 3, 3);
        x.gap(5, 3, 0);
        onDays(x, 0, 7, 4, 3, 3, 3, 3, 4);
    }

    private static void comes() {
        MazeCalendar x = with(CROSS, "07nl;39nl");
        int[] first = {NONE, 4, NONE, 2, 1, 6, NONE, 0, NONE};
        for (int d = 0; d < 9; d++) due("comes to " + d, x.comes(0, d), first[d]);
        due("nowhere", x.comes(1, 0), NONE);
        due("day 9", x.comes(0, 9), BAD);
        due("day 9, nowhere", x.comes(1, 9), BAD);
        due("day -1", x.comes(0, -1), BAD);
        due("walker 2", x.comes(2, 0), BAD);
        due("walker -1", x.comes(-1, 0), BAD);
        MazeCalendar late = with("..", "00el");
        late.gap(98, 0, 0);
        due("behind 99 steps", late.comes(0, 1), 99);
        late.back(1);
        late.gap(99, 0, 0);
        due("not behind 100", late.comes(0, 1), NONE);
    }

    private static void meet() {
        MazeCalendar x = with(SNAIL, "00el;02wr;03sr;04nl;39nl;39nr");
        due("0 and 2 meet in 1", x.meet(0, 1), 1);
        due("the other way round", x.meet(1, 0), 1);
        due("0 and 3 pass by", x.meet(0, 2), NONE);
        due("one alone", x.meet(0, 3), NONE);
        due("one nowhere", x.meet(0, 4), NONE);
        due("both nowhere", x.meet(4, 5), NONE);
        due("one twice", x.meet(0, 0), BAD);
        due("nowhere twice", x.meet(4, 4), BAD);
        due("walker 6", x.meet(0, 6), BAD);
        due("walker -1", x.meet(-1, 0), BAD);
        MazeCalendar same = with(SNAIL, "00el;00wr");
        due("at once", same.meet(0, 1), 0);
        MazeCalendar late = with("..", "00el;01na");
        late.gap(98, 0, 0);
        late.hedge(98, 0, 0);
        due("they change places", late.meet(0, 1), NONE);
        MazeCalendar three = with("...", "00el;02na");
        three.gap(98, 0, 0);
        three.gap(98, 1, 0);
        due("behind 99", three.meet(0, 1), 99);
    }

    private static void round() {
        MazeCalendar x = with(CROSS, "07nl;07nr;07na;00nl;39nl");
        due("left", x.round(0), 8);
        due("right", x.round(1), 8);
        due("ahead", x.round(2), 4);
        due("it stays", x.round(3), 1);
        due("nowhere", x.round(4), NONE);
        due("walker 5", x.round(5), BAD);
        due("walker -1", x.round(-1), BAD);
        MazeCalendar snail = with(SNAIL, "00el");
        due("there and back", snail.round(0), 14);
        snail.hedge(99, 7, 0);
        due("as in step 99", snail.round(0), 8);
        MazeCalendar ring = with("rd;r.", "00el");
        ring.gap(0, 0, 1);
        due("a ring", ring.round(0), 4);
        MazeCalendar most = with("rrrrrd;brrrr.;rrrrrd;brrrr.;rrrrrd;rrrrr.", "00el");
        due("a path of all days", most.round(0), 70);
    }

    private static void trod() {
        MazeCalendar x = with(CROSS, "07nl;07nr;07na;39nl");
        due("at first", x.trod(0, 0), 1 << 7);
        due("behind 1", x.trod(1, 0), 1 << 7 | 1 << 4);
        due("behind 2", x.trod(2, 0), 1 << 7 | 1 << 4 | 1 << 3 | 1 << 5 | 1 << 1);
        due("the upper ones", x.trod(99, 1), 0);
        due("steps 100", x.trod(100, 0), BAD);
        due("steps -1", x.trod(-1, 0), BAD);
        due("what 2", x.trod(0, 2), BAD);
        due("what -1", x.trod(0, -1), BAD);
        MazeCalendar all = with(ALL_OPEN, "17sa;18el;35nl");
        due("day 17", all.trod(0, 0), 1 << 17);
        due("days 18 and 35", all.trod(0, 1), 1 | 1 << 17);
        due("of nobody", with(CROSS).trod(5, 0), 0);
    }

    private static void way() {
        MazeCalendar x = with(SNAIL);
        int[] far = {0, 1, 2, 7, NONE, 3, 6, 5, 4};
        for (int d = 0; d < 9; d++) {
            due("way to " + d, x.way(0, 0, d), far[d]);
            due("way from " + d, x.way(0, d, 0), far[d]);
        }
        due("to itself", x.way(0, 4, 4), 0);
        x.gap(6, 0, 1);
        due("ahead of the gap", x.way(5, 0, 3), 7);
        due("through it", x.way(6, 0, 3), 1);
        due("step 100", x.way(100, 0, 0), BAD);
        due("step -1", x.way(-1, 0, 0), BAD);
        due("from 9", x.way(0, 9, 0), BAD);
        due("to 9", x.way(0, 0, 9), BAD);
        due("from -1", x.way(0, -1, 0), BAD);
        due("to -1", x.way(0, 0, -1), BAD);
        due("no maze", new MazeCalendar().way(0, 0, 0), BAD);
        due("the longest", with("rrrrrd;drrrr.;rrrrrd;drrrr.;rrrrrd;rrrrr.").way(0, 0, 30), NONE);
        MazeCalendar most = with("rrrrrd;brrrr.;rrrrrd;brrrr.;rrrrrd;rrrrr.");
        due("through all days", most.way(0, 0, 30), 35);
    }

    private static void through() {
        MazeCalendar x = with(SNAIL);
        due("on the way", x.through(0, 0, 2, 5), 3);
        due("there and back", x.through(0, 0, 3, 2), 12);
        due("by where it is", x.through(0, 0, 0, 5), 3);
        due("nowhere to go", x.through(0, 5, 5, 5), 0);
        due("by one alone", x.through(0, 0, 4, 2), NONE);
        due("to one alone", x.through(0, 0, 2, 4), NONE);
        due("step 100", x.through(100, 0, 0, 0), BAD);
        due("from 9", x.through(0, 9, 0, 0), BAD);
        due("by 9", x.through(0, 0, 9, 0), BAD);
        due("to 9", x.through(0, 0, 0, 9), BAD);
        due("by -1", x.through(0, 0, -1, 0), BAD);
    }

    private static void joined() {
        MazeCalendar x = with(SNAIL);
        due("the path", x.joined(0, 3), 8);
        due("alone", x.joined(0, 4), 1);
        x.hedge(5, 5, 1);
        due("ahead of the hedge", x.joined(4, 0), 8);
        due("before it", x.joined(5, 0), 4);
        due("all", with(ALL_OPEN).joined(0, 17), 36);
        due("step 100", x.joined(100, 0), BAD);
        due("step -1", x.joined(-1, 0), BAD);
        due("day 9", x.joined(0, 9), BAD);
        due("day -1", x.joined(0, -1), BAD);
    }

    private static void hear() {
        MazeCalendar x = with(SNAIL);
        due("over the hedge", x.hear(0, 4, 1), 1);
        due("from the other side", x.hear(0, 1, 4), 1);
        due("beside each other", x.hear(0, 3, 4), 1);
        due("open between", x.hear(0, 0, 1), 0);
        due("open under", x.hear(0, 2, 5), 0);
        due("far away", x.hear(0, 0, 8), 0);
        due("askew", x.hear(0, 0, 4), 0);
        due("the end of a row and the next", x.hear(0, 2, 3), 0);
        due("itself", x.hear(0, 4, 4), 0);
        x.gap(5, 1, 1);
        due("ahead of the gap", x.hear(4, 1, 4), 1);
        due("through the gap", x.hear(5, 1, 4), 0);
        due("step 100", x.hear(100, 0, 1), BAD);
        due("a day 9", x.hear(0, 9, 8), BAD);
        due("b day 9", x.hear(0, 8, 9), BAD);
        due("a day -1", x.hear(0, -1, 0), BAD);
    }

    private static void cut() {
        MazeCalendar x = with(".....");
        int[] places = {0, 1, 2, 3, NONE};
        for (int d = 0; d < 5; d++) {
            due("cut to " + d, x.cut(0, 0, d), places[d]);
            due("cut from " + d, x.cut(0, d, 0), places[d]);
        }
        x.gap(3, 2, 0);
        due("ahead of the gap", x.cut(2, 0, 4), NONE);
        due("with the gap", x.cut(3, 0, 4), 3);
        MazeCalendar snail = with(SNAIL);
        due("joined", snail.cut(0, 0, 3), 0);
        due("the one alone", snail.cut(0, 4, 0), 1);
        due("itself", snail.cut(0, 4, 4), 0);
        due("step 100", x.cut(100, 0, 0), BAD);
        due("step -1", x.cut(-1, 0, 0), BAD);
        due("from 5", x.cut(0, 5, 0), BAD);
        due("to 5", x.cut(0, 0, 5), BAD);
        due("to -1", x.cut(0, 0, -1), BAD);
    }

    private static void guards(MazeCalendar x, int from, int to, int... want) {
        due("guards of " + from + ", " + to, x.guard(0, from, to, NONE), want[0]);
        due("the first of " + from + ", " + to, x.guard(0, from, to, 0), want.length > 1 ? want[1] : NONE);
        due("the second of " + from + ", " + to, x.guard(0, from, to, 1), want.length > 2 ? want[2] : NONE);
    }

    private static void guard() {
        guards(with("rrr."), 0, 3, 1, 1);
        guards(with("rrr."), 3, 0, 1, 1);
        guards(with("rrr."), 1, 3, 1, 2);
        guards(with("rrr."), 0, 1, NONE);
        guards(with("rr.."), 0, 3, 0);
        guards(with("b.;.."), 1, 2, 1, 0);
        guards(with("rd;.d;r."), 0, 4, 1, 1);
        guards(with("bd;r."), 0, 3, 2, 1, 2);
        guards(with("bd;r."), 1, 2, 2, 0, 3);
        guards(with("bb.;bb.;..."), 0, 4, 2, 1, 3);
        guards(with("bbb;bbb;bbb"), 3, 5, NONE);
        guards(with(ALL_OPEN), 0, 35, 2, 1, 6);
        guards(with(ALL_OPEN), 35, 14, 2, 29, 34);
        MazeCalendar x = with("rrr.");
        x.hedge(7, 1, 0);
        due("ahead of the hedge", x.guard(6, 0, 3, NONE), 1);
        due("with the hedge", x.guard(7, 0, 3, NONE), 0);
        due("one day twice", x.guard(0, 1, 1, NONE), BAD);
        due("i 2", x.guard(0, 0, 3, 2), BAD);
        due("i -2", x.guard(0, 0, 3, -2), BAD);
        due("step 100", x.guard(100, 0, 3, NONE), BAD);
        due("step -1", x.guard(-1, 0, 3, NONE), BAD);
        due("from 4", x.guard(0, 4, 3, NONE), BAD);
        due("to 4", x.guard(0, 0, 4, NONE), BAD);
        due("to -1", x.guard(0, 0, -1, NONE), BAD);
    }

    private static void seen() {
        MazeCalendar x = with("..");
        due("one", x.seen(0, 0), 1);
        due("the last step, the last day", x.seen(99, 35), 2);
        due("steps 100", x.seen(100, 0), BAD);
        due("steps -1", x.seen(-1, 0), BAD);
        due("day 36", x.seen(0, 36), BAD);
        due("day -1", x.seen(0, -1), BAD);
        for (int n = 3; n <= 8; n++) due("seen " + n, x.seen(0, 0), n);
        due("a ninth", x.seen(0, 0), FULL);
        due("bad ahead of full", x.seen(0, 36), BAD);
        due("how many", x.count(7), 8);
    }

    private static void forget() {
        MazeCalendar x = with("..");
        due("none", x.forget(), 0);
        x.seen(0, 1);
        x.seen(0, 1);
        due("began on 1", x.began(0, NONE), 4);
        due("two", x.forget(), 2);
        due("anywhere", x.began(0, NONE), 8);
        due("none is left", x.forget(), 0);
        due("one more", x.seen(1, 0), 1);
        due("begins there", x.began(0, 0), 0);
    }

    private static void began() {
        MazeCalendar x = with(CROSS);
        due("anywhere", x.began(0, NONE), 36);
        due("the last", x.began(0, 35), 35);
        due("beyond it", x.began(0, 36), NONE);
        due("the 143rd", x.began(0, 143), NONE);
        // On 4 and then on 3: by the left hand heading n, by the right heading s, straight heading w.
        x.seen(0, 4);
        x.seen(1, 3);
        for (int hand = 0; hand < 3; hand++) {
            due("hand " + hand, x.began(hand, NONE), 1);
            due("start of hand " + hand, x.began(hand, 0), 16 + new int[] {0, 2, 3}[hand]);
            due("a second of hand " + hand, x.began(hand, 1), NONE);
        }
        x.seen(1, 5);
        due("on two days at once", x.began(0, NONE), 0);
        due("the first of none", x.began(0, 0), NONE);
        x.forget();
        x.seen(1, 3);
        due("from 4 alone", x.began(2, 0), 19);
        x.forget();
        x.seen(99, 0);
        due("it stayed, whatever way it headed", x.began(1, NONE), 4);
        due("the third", x.began(1, 2), 2);
        x.forget();
        x.seen(5, 9);
        due("a day that there is not", x.began(0, NONE), 0);
        due("hand 3", x.began(3, 0), BAD);
        due("hand -1", x.began(-1, 0), BAD);
        due("i 144", x.began(0, 144), BAD);
        due("i -2", x.began(0, -2), BAD);
        due("as many as there may be", with(ALL_OPEN).began(0, NONE), 144);
        due("the last of them", with(ALL_OPEN).began(0, 143), 143);
        MazeCalendar shut = with("..");
        shut.gap(3, 0, 0);
        shut.seen(3, 0);
        shut.seen(4, 1);
        due("by what is open then", shut.began(2, NONE), 4);
        due("none without days", new MazeCalendar().began(0, NONE), 0);
    }

    private static void look() {
        MazeCalendar x = with(CROSS);
        due("of like ones the least", x.look(0, 0), 0);
        due("most come to the middle", x.look(0, 1), 4);
        due("behind 2 four are on each day", x.look(0, 2), 0);
        x.seen(0, 4);
        x.seen(1, 3);
        due("behind 0", x.look(0, 0), 4);
        due("behind 1", x.look(0, 1), 3);
        due("behind 3", x.look(0, 3), 1);
        due("by the other hand", x.look(1, 3), 7);
        due("straight", x.look(2, 3), 5);
        x.seen(1, 4);
        due("there are none", x.look(0, 0), NONE);
        due("hand 3", x.look(3, 0), BAD);
        due("hand -1", x.look(-1, 0), BAD);
        due("steps 100", x.look(0, 100), BAD);
        due("steps -1", x.look(0, -1), BAD);
        due("no days", new MazeCalendar().look(0, 99), NONE);
    }

    private static void strays(MazeCalendar x, int from, int steps, int to, long above, long below) {
        String what = "stray from " + from + " in " + steps + " to " + to;
        due(what + ", above", x.stray(0, from, steps, to, 0), above);
        due(what + ", below", x.stray(0, from, steps, to, 1), below);
    }

    private static void stray() {
        MazeCalendar x = with(CROSS);
        strays(x, 4, 0, 4, 1, 1);
        strays(x, 4, 0, 1, 0, 1);
        strays(x, 4, 1, 1, 1, 4);
        strays(x, 4, 2, 4, 1, 1);
        strays(x, 1, 3, 4, 1, 1);
        strays(x, 1, 4, 7, 1, 4);
        strays(x, 0, 8, 0, 1, 1);
        strays(x, 0, 8, 1, 0, 1);
        MazeCalendar tee = with("rb.;...");
        strays(tee, 1, 1, 4, 1, 3);
        strays(tee, 0, 8, 2, 1, 3);
        strays(tee, 0, 8, 1, 0, 1);
        strays(tee, 0, 8, 4, 1, 3);
        MazeCalendar row = with("rrr.");
        strays(row, 0, 8, 0, 43, 128);
        due("step 100", x.stray(100, 4, 1, 1, 0), BAD_LONG);
        due("step -1", x.stray(-1, 4, 1, 1, 0), BAD_LONG);
        due("from 9", x.stray(0, 9, 1, 1, 0), BAD_LONG);
        due("steps 9", x.stray(0, 4, 9, 1, 0), BAD_LONG);
        due("steps -1", x.stray(0, 4, -1, 1, 0), BAD_LONG);
        due("to 9", x.stray(0, 4, 1, 9, 0), BAD_LONG);
        due("to -1", x.stray(0, 4, 1, -1, 0), BAD_LONG);
        due("what 2", x.stray(0, 4, 1, 1, 2), BAD_LONG);
        due("what -1", x.stray(0, 4, 1, 1, -1), BAD_LONG);
        x.hedge(9, 4, 0);
        due("in step 9 for good", x.stray(9, 4, 1, 1, 1), 3);
        due("in step 8 for good", x.stray(8, 4, 1, 1, 1), 4);
    }

    private static void child() {
        MazeCalendar x = with(CROSS);
        // 12345, 1103527590 and 2207042835 have upper halves 0, 16838 and 33676: ways n, s, n.
        due("seed 0 goes n", x.child(0, 4, 1, 0), 1);
        due("seed 1 goes s", x.child(1, 4, 1, 0), 7);
        due("seed 2 goes n", x.child(2, 4, 1, 0), 1);
        due("it went", x.child(1, 4, 1, 1), 1);
        due("it goes on", x.child(1, 1, 1, 0), 4);
        due("not open", x.child(1, 5, 1, 0), 5);
        due("it went not", x.child(1, 5, 1, 1), 0);
        due("alone", x.child(3, 0, 99, 0), 0);
        due("never", x.child(3, 0, 99, 1), 0);
        x.hedge(0, 4, 1);
        due("a hedge in step 0", x.child(1, 4, 1, 0), 4);
        due("day 9", x.child(0, 9, 1, 0), BAD);
        due("day -1", x.child(0, -1, 1, 0), BAD);
        due("steps 0", x.child(0, 4, 0, 0), BAD);
        due("steps 100", x.child(0, 4, 100, 0), BAD);
        due("what 2", x.child(0, 4, 1, 2), BAD);
        due("what -1", x.child(0, 4, 1, -1), BAD);
    }

    private static void sheet() {
        MazeCalendar x = new MazeCalendar();
        due("bytes", x.sheet(0, 0, 60), 60);
        due("shorts", x.sheet(3, 1, 0), 0);
        due("ints", x.sheet(1, 2, 7), 7);
        for (int i = 0; i < 7; i++) due("0 at first", x.get(1, 2, i), 0);
        x.put(1, 2, 3, 9);
        due("a new one", x.sheet(1, 2, 5), 5);
        due("0 again", x.get(1, 2, 3), 0);
        due("sheet 4", x.sheet(4, 0, 1), BAD);
        due("sheet -1", x.sheet(-1, 0, 1), BAD);
        due("form 3", x.sheet(0, 3, 1), BAD);
        due("form -1", x.sheet(0, -1, 1), BAD);
        due("61 items", x.sheet(0, 0, 61), BAD);
        due("no finding yet", x.count(8), 0);
        due("bad ahead of size", x.sheet(0, 3, -1), BAD);
        due("-1 items", x.sheet(0, 2, -1), SIZE);
        due("the least", x.sheet(0, 2, LEAST), SIZE);
        due("its finding", x.count(8), 5);
        due("the old one stays", x.lose(0), 60);
    }

    private static void lose() {
        MazeCalendar x = new MazeCalendar();
        due("lost at first", x.lose(2), NULL);
        x.sheet(2, 1, 17);
        due("how many", x.lose(2), 17);
        due("lost now", x.lose(2), NULL);
        x.sheet(2, 1, 0);
        due("of no items", x.lose(2), 0);
        due("sheet 4", x.lose(4), BAD);
        due("sheet -1", x.lose(-1), BAD);
    }

    private static void put() {
        MazeCalendar x = new MazeCalendar();
        due("lost", x.put(0, 0, 0, 1), NULL);
        due("its finding", x.count(8), 1);
        x.sheet(0, 0, 3);
        x.sheet(1, 1, 3);
        x.sheet(2, 2, 3);
        due("a byte", x.put(0, 0, 2, 0x1FF80), 1);
        due("its lowest bits", x.get(0, 0, 2), -128);
        due("a short", x.put(1, 1, 2, 0x18000), 1);
        due("its lowest bits", x.get(1, 1, 2), -32768);
        due("an int", x.put(2, 2, 2, MOST), 1);
        due("all its bits", x.get(2, 2, 2), MOST);
        due("another form", x.put(0, 1, 0, 1), CAST);
        due("its finding", x.count(8), 3);
        due("cast ahead of index", x.put(0, 1, 3, 1), CAST);
        due("item 3", x.put(0, 0, 3, 1), INDEX);
        due("its finding", x.count(8), 2);
        due("item -1", x.put(0, 0, -1, 1), INDEX);
        due("null ahead of index", x.put(3, 0, -1, 1), NULL);
        due("sheet 4", x.put(4, 0, 0, 1), BAD);
        due("sheet -1", x.put(-1, 0, 0, 1), BAD);
        due("form 3", x.put(0, 3, 0, 1), BAD);
        due("form -1", x.put(3, -1, 0, 1), BAD);
        due("nothing changed", x.get(0, 0, 0), 0);
    }

    private static void get() {
        MazeCalendar x = new MazeCalendar();
        due("sheet 4", x.get(4, 0, 0), LEAST);
        due("form 3", x.get(0, 3, 0), LEAST);
        due("no finding", x.count(8), 0);
        due("lost", x.get(0, 0, 0), LEAST);
        due("finding 1", x.count(8), 1);
        x.sheet(0, 0, 2);
        due("another form", x.get(0, 2, 5), LEAST);
        due("finding 3", x.count(8), 3);
        due("item 2", x.get(0, 0, 2), LEAST);
        due("finding 2", x.count(8), 2);
        due("sheet -1", x.get(-1, 0, 0), LEAST);
        due("the finding stays", x.count(8), 2);
        x.put(0, 0, 1, 5);
        due("an item", x.get(0, 0, 1), 5);
        due("the finding stays", x.count(8), 2);
    }

    private static void copy() {
        MazeCalendar x = new MazeCalendar();
        x.sheet(0, 2, 6);
        for (int i = 0; i < 6; i++) x.put(0, 2, i, i + 1);
        due("t lost", x.copy(0, 0, 1, 0, 1), NULL);
        due("s lost", x.copy(1, 0, 0, 0, 1), NULL);
        due("its finding", x.count(8), 1);
        due("onto itself", x.copy(0, 0, 0, 2, 4), 1);
        int[] want = {1, 2, 1, 2, 3, 4};
        for (int i = 0; i < 6; i++) due("as they were, " + i, x.get(0, 2, i), want[i]);
        x.sheet(1, 2, 3);
        due("to another", x.copy(0, 3, 1, 0, 3), 1);
        due("its first", x.get(1, 2, 0), 2);
        due("its last", x.get(1, 2, 2), 4);
        due("none from the end", x.copy(0, 6, 1, 3, 0), 1);
        due("not so many in s", x.copy(0, 4, 1, 0, 3), INDEX);
        due("not so many in t", x.copy(0, 0, 1, 1, 3), INDEX);
        due("i -1", x.copy(0, -1, 1, 0, 1), INDEX);
        due("j -1", x.copy(0, 0, 1, -1, 1), INDEX);
        due("n -1", x.copy(0, 1, 1, 1, -1), INDEX);
        due("the most", x.copy(0, MOST, 1, 0, MOST), INDEX);
        due("the least", x.copy(0, 0, 1, 0, LEAST), INDEX);
        due("its finding", x.count(8), 2);
        x.sheet(2, 1, 3);
        due("unlike forms", x.copy(0, 0, 2, 0, 1), STORE);
        due("its finding", x.count(8), 4);
        due("store ahead of index", x.copy(0, -1, 2, 0, 1), STORE);
        due("s 4", x.copy(4, 0, 0, 0, 1), BAD);
        due("t 4", x.copy(0, 0, 4, 0, 1), BAD);
        due("t -1, s lost", x.copy(3, 0, -1, 0, 1), BAD);
        due("nothing changed", x.get(1, 2, 0), 2);
    }

    private static void write() {
        MazeCalendar x = with(CROSS, "07nl;39nl");
        due("lost", x.write(0, 0), NULL);
        due("its finding", x.count(8), 1);
        x.sheet(0, 0, 5);
        due("a walk", x.write(0, 0), 5);
        int[] days = {7, 4, 3, 4, 1};
        for (int i = 0; i < 5; i++) due("item " + i, x.get(0, 0, i), days[i]);
        x.sheet(1, 1, 60);
        due("nowhere", x.write(1, 1), 60);
        due("none first", x.get(1, 1, 0), NONE);
        due("none last", x.get(1, 1, 59), NONE);
        due("a long walk", x.write(0, 1), 60);
        due("behind 59", x.get(1, 1, 59), x.on(0, 59, 0));
        x.sheet(2, 2, 0);
        due("of no items", x.write(0, 2), 0);
        due("walker 2", x.write(2, 0), BAD);
        due("walker -1", x.write(-1, 0), BAD);
        due("sheet 4", x.write(0, 4), BAD);
        due("sheet -1", x.write(0, -1), BAD);
        due("bad ahead of null", x.write(2, 3), BAD);
    }

    private static void count() {
        MazeCalendar x = with("rr.;...", "00nl;00nl;00nl");
        x.hedge(0, 0, 0);
        x.gap(0, 0, 0);
        x.gap(0, 0, 0);
        x.seen(0, 0);
        x.seen(0, 0);
        x.seen(0, 0);
        x.lose(0);
        int[] counts = {6, 2, 3, 7, 14, 1, 2, 3, 1};
        for (int what = 0; what < 9; what++) due("count " + what, x.count(what), counts[what]);
        due("what 9", x.count(9), BAD);
        due("what -1", x.count(-1), BAD);
        x.type(0, 'x');
        due("no days", x.count(0), 0);
        due("no rows", x.count(1), 0);
        due("but bytes", x.count(3), 8);
    }

    private static void digest() {
        long[] bare = {0, 0, 0, 0, 0, 0, 0, 0, -1, -1, BAD, 0, 0, BAD, BAD,
            0, NONE, NONE, 0, NONE, NONE, 0, NONE, NONE, BAD_LONG, BAD_LONG, BAD, BAD};
        due("of a new one", new MazeCalendar().digest(), mix(bare));
        // Two days, open to each other, and one walker on the first.
        long[] two = {2, 1, 1, 2, 4, 0, 0, 0, -1, -1, 2, 2, 2, 0, 0, 8, 8, 2, 1, 0,
            0, 1, 0, 1, 1, 1, 0, 2, BAD, 3, 0, BAD, BAD,
            8, 0, 0, 8, 0, 0, 8, 0, 0, 1, 1, 0, 0};
        MazeCalendar x = with("r.", "00el");
        two[two.length - 2] = x.child(7, 0, 30, 0);
        two[two.length - 1] = x.child(7, 0, 30, 1);
        due("of two days", x.digest(), mix(two));
        due("it changes nothing", x.digest(), mix(two));
        due("no finding", x.count(8), 0);
    }

    private static long mix(long... values) {
        long h = 17;
        for (long v : values) h = 31 * h + v;
        return h;
    }

    private static void check(int number) {
        promise = number;
        switch (number) {
            case 1: newObject(); break;
            case 2: type(); break;
            case 3: wipe(); break;
            case 4: undo(); break;
            case 5: fault(); break;
            case 6: walker(); break;
            case 7: hedge(); break;
            case 8: gap(); break;
            case 9: back(); break;
            case 10: read(); break;
            case 11: open(); break;
            case 12: on(); break;
            case 13: comes(); break;
            case 14: meet(); break;
            case 15: round(); break;
            case 16: trod(); break;
            case 17: way(); break;
            case 18: through(); break;
            case 19: joined(); break;
            case 20: hear(); break;
            case 21: cut(); break;
            case 22: guard(); break;
            case 23: seen(); break;
            case 24: forget(); break;
            case 25: began(); break;
            case 26: look(); break;
            case 27: stray(); break;
            case 28: child(); break;
            case 29: sheet(); break;
            case 30: lose(); break;
            case 31: put(); break;
            case 32: get(); break;
            case 33: copy(); break;
            case 34: write(); break;
            case 35: count(); break;
            default: digest(); break;
        }
    }

    public static void main(String[] args) {
        for (int number = 1; number <= 36; number++) check(number);
        System.out.println(wrong == 0 ? "every promise holds" : wrong + " answers are not as due");
        if (wrong != 0) System.exit(1);
    }
}
