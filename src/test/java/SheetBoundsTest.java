import java.util.ArrayList;
import java.util.List;

/** The boundary cases of sheets, findings, counts and the digest: promises 29 to 36. */
public final class SheetBoundsTest {
    private static final int NONE = Checks.NONE, BAD = Checks.BAD;
    private static final int NULL = Checks.NULL, INDEX = Checks.INDEX, CAST = Checks.CAST, STORE = Checks.STORE, SIZE = Checks.SIZE;
    private static final int LEAST = Checks.LEAST, MOST = Checks.MOST;
    private static final int[] NO_SHEET = {-1, 4, LEAST, MOST};
    private static final int[] NO_FORM = {-1, 3, LEAST, MOST};

    private static void due(String call, long got, long want) {
        Checks.due(call, got, want);
    }

    /** Sheet 0 of 3 bytes, 1 of 3 shorts, 2 of 3 ints; 3 is lost. */
    private static MazeCalendar threeSheets() {
        MazeCalendar x = new MazeCalendar();
        for (int s = 0; s < 3; s++) x.sheet(s, s, 3);
        return x;
    }

    private static void sheetsAndForms() {
        Checks.sentence("SHEETS 0 .. 3 are LOST (at first) or a row of a FORM: 0 bytes, 1 shorts, 2 ints");
        MazeCalendar x = new MazeCalendar();
        for (int s = 0; s < 4; s++) {
            due("lost, get", x.get(s, 0, 0), LEAST);
            due("lost, put", x.put(s, 0, 0, 0), NULL);
            for (int form = 0; form < 3; form++) {
                due("sheet " + s + " of form " + form, x.sheet(s, form, 1), 1);
                for (int other = 0; other < 3; other++) {
                    due("form " + form + " as " + other, x.put(s, other, 0, 7), other == form ? 1 : CAST);
                }
            }
        }
        for (int s : NO_SHEET) due("sheet " + s, x.sheet(s, 0, 0), BAD);
        for (int form : NO_FORM) due("form " + form, x.sheet(0, form, 0), BAD);
        due("sheet 0 stays", x.get(0, 2, 0), 7);
    }

    private static void itemsOfASheet() {
        Checks.sentence("of 0 to 60 items (0 at first)");
        MazeCalendar x = new MazeCalendar();
        for (int form = 0; form < 3; form++) {
            due("60 items", x.sheet(0, form, 60), 60);
            due("the first", x.get(0, form, 0), 0);
            due("the last", x.get(0, form, 59), 0);
            due("one more", x.put(0, form, 60, 1), INDEX);
            due("no items", x.sheet(1, form, 0), 0);
            due("none at all", x.put(1, form, 0, 1), INDEX);
            due("yet it is not lost", x.lose(1), 0);
            due("one item", x.sheet(1, form, 1), 1);
            due("it", x.put(1, form, 0, 1), 1);
            due("no second", x.put(1, form, 1, 1), INDEX);
        }
        due("61 items", x.sheet(2, 0, 61), BAD);
        due("the most items", x.sheet(2, 0, MOST), BAD);
        due("still lost", x.lose(2), NULL);
    }

    private static void aNewRow() {
        Checks.sentence("A SHEET is a new row of a FORM with n items: n");
        MazeCalendar x = new MazeCalendar();
        x.sheet(0, 2, 60);
        for (int i = 0; i < 60; i++) x.put(0, 2, i, -1);
        due("fewer items", x.sheet(0, 2, 3), 3);
        for (int i = 0; i < 3; i++) due("item " + i, x.get(0, 2, i), 0);
        due("item 3", x.put(0, 2, 3, 1), INDEX);
        due("more items", x.sheet(0, 2, 60), 60);
        for (int i = 0; i < 60; i++) due("item " + i, x.get(0, 2, i), 0);
        due("another form", x.sheet(0, 0, 1), 1);
        due("the old form", x.put(0, 2, 0, 1), CAST);
    }

    private static void sheetRefusals() {
        Checks.sentence("sheet: BAD: SHEET, FORM, above 60; SIZE");
        MazeCalendar x = threeSheets();
        for (int n : new int[] {-1, -60, LEAST}) {
            due("items " + n, x.sheet(0, 0, n), SIZE);
            due("its finding", x.count(8), 5);
            for (int s : NO_SHEET) due("bad ahead of size, sheet " + s, x.sheet(s, 0, n), BAD);
            for (int form : NO_FORM) due("bad ahead of size, form " + form, x.sheet(0, form, n), BAD);
        }
        due("the row stays", x.lose(0), 3);
        due("size of a lost one", x.sheet(3, 0, -1), SIZE);
        due("it is lost still", x.lose(3), NULL);
    }

    private static void loseSheets() {
        Checks.sentence("It is LOST: how many items it had. BAD; NULL");
        MazeCalendar x = new MazeCalendar();
        for (int s : NO_SHEET) due("sheet " + s, x.lose(s), BAD);
        due("no finding", x.count(8), 0);
        for (int s = 0; s < 4; s++) {
            due("lost at first", x.lose(s), NULL);
            due("its finding", x.count(8), 1);
            x.sheet(s, s % 3, 60);
            due("60 items", x.lose(s), 60);
            due("lost now", x.lose(s), NULL);
            x.sheet(s, s % 3, 0);
            due("no items", x.lose(s), 0);
            due("lost again", x.lose(s), NULL);
        }
    }

    private static void keeps(int form, int v, int want) {
        MazeCalendar x = threeSheets();
        due("put of " + v + " in form " + form, x.put(form, form, 2, v), 1);
        due("get of " + v + " in form " + form, x.get(form, form, 2), want);
        due("the one ahead of it", x.get(form, form, 1), 0);
        due("no finding", x.count(8), 0);
    }

    private static void lowestBits() {
        Checks.sentence("put: Item i, treated as of a FORM, becomes v (the lowest bits that it has): 1");
        int[][] bytes = {{0, 0}, {127, 127}, {128, -128}, {255, -1}, {256, 0}, {-128, -128}, {-129, 127}, {MOST, -1}, {LEAST, 0}};
        for (int[] b : bytes) keeps(0, b[0], b[1]);
        int[][] shorts = {{127, 127}, {128, 128}, {255, 255}, {32767, 32767}, {32768, -32768}, {65535, -1}, {65536, 0},
            {-32768, -32768}, {-32769, 32767}, {MOST, -1}, {LEAST, 0}};
        for (int[] s : shorts) keeps(1, s[0], s[1]);
        for (int v : new int[] {0, -1, 32768, 65536, MOST, LEAST}) keeps(2, v, v);
    }

    private static void putRefusals() {
        Checks.sentence("put: BAD; NULL; CAST; INDEX: the first that fits");
        MazeCalendar x = threeSheets();
        for (int s : NO_SHEET) due("sheet " + s, x.put(s, 0, 0, 1), BAD);
        for (int form : NO_FORM) {
            due("form " + form, x.put(0, form, 0, 1), BAD);
            due("bad ahead of null, form " + form, x.put(3, form, 0, 1), BAD);
            due("bad ahead of index, form " + form, x.put(0, form, 3, 1), BAD);
        }
        due("no finding", x.count(8), 0);
        due("null", x.put(3, 0, 0, 1), NULL);
        due("its finding", x.count(8), 1);
        due("cast", x.put(0, 1, 0, 1), CAST);
        due("its finding", x.count(8), 3);
        due("null ahead of index", x.put(3, 2, -1, 1), NULL);
        due("cast ahead of index", x.put(0, 2, -1, 1), CAST);
        for (int i : new int[] {-1, 3, 60, LEAST, MOST}) {
            due("item " + i, x.put(0, 0, i, 1), INDEX);
            due("its finding", x.count(8), 2);
        }
        for (int s = 0; s < 3; s++) {
            for (int i = 0; i < 3; i++) due("nothing changed", x.get(s, s, i), 0);
        }
    }

    private static void getRefusals() {
        Checks.sentence("Item i of it. BAD: the least int; so are NULL, CAST, INDEX (count() 8 tells)");
        MazeCalendar x = threeSheets();
        due("the first item", x.get(0, 0, 0), 0);
        due("the last item", x.get(2, 2, 2), 0);
        for (int s : NO_SHEET) due("sheet " + s, x.get(s, 0, 0), LEAST);
        for (int form : NO_FORM) {
            due("form " + form, x.get(0, form, 0), LEAST);
            due("form " + form + " of a lost one", x.get(3, form, 0), LEAST);
            due("form " + form + ", item 3", x.get(0, form, 3), LEAST);
        }
        due("BAD is no finding", x.count(8), 0);
        due("lost", x.get(3, 0, 0), LEAST);
        due("NULL", x.count(8), 1);
        due("another form", x.get(0, 1, 0), LEAST);
        due("CAST", x.count(8), 3);
        due("null ahead of index", x.get(3, 0, -1), LEAST);
        due("NULL", x.count(8), 1);
        due("cast ahead of index", x.get(1, 0, 3), LEAST);
        due("CAST", x.count(8), 3);
        for (int i : new int[] {-1, 3, 60, LEAST, MOST}) {
            x.get(3, 0, 0);
            due("item " + i, x.get(0, 0, i), LEAST);
            due("INDEX", x.count(8), 2);
        }
        x.get(3, 0, 0);
        x.put(2, 2, 1, LEAST);
        due("an item that is the least int", x.get(2, 2, 1), LEAST);
        due("is no finding", x.count(8), 1);
    }

    private static MazeCalendar counting(int s, int n) {
        MazeCalendar x = new MazeCalendar();
        x.sheet(s, 2, n);
        for (int i = 0; i < n; i++) x.put(s, 2, i, i + 1);
        return x;
    }

    private static void items(MazeCalendar x, int s, int... want) {
        for (int i = 0; i < want.length; i++) due("item " + i + " of sheet " + s, x.get(s, 2, i), want[i]);
    }

    private static void copyAsTheyWere() {
        Checks.sentence("copy: n items of SHEET s, from i on, come to SHEET t (perhaps s, as they were), from j on: 1");
        MazeCalendar up = counting(0, 5);
        due("up by one", up.copy(0, 0, 0, 1, 4), 1);
        items(up, 0, 1, 1, 2, 3, 4);
        MazeCalendar down = counting(0, 5);
        due("down by one", down.copy(0, 1, 0, 0, 4), 1);
        items(down, 0, 2, 3, 4, 5, 5);
        MazeCalendar still = counting(0, 5);
        due("onto themselves", still.copy(0, 0, 0, 0, 5), 1);
        items(still, 0, 1, 2, 3, 4, 5);
        MazeCalendar two = counting(3, 5);
        two.sheet(0, 2, 3);
        due("to another", two.copy(3, 2, 0, 0, 3), 1);
        items(two, 0, 3, 4, 5);
        items(two, 3, 1, 2, 3, 4, 5);
        MazeCalendar all = counting(0, 60);
        all.sheet(1, 2, 60);
        due("all sixty", all.copy(0, 0, 1, 0, 60), 1);
        due("the last", all.get(1, 2, 59), 60);
    }

    private static void copyOfNone() {
        Checks.sentence("copy: n items (none, too)");
        MazeCalendar x = counting(0, 3);
        x.sheet(1, 2, 0);
        due("none from the first", x.copy(0, 0, 1, 0, 0), 1);
        due("none from the end", x.copy(0, 3, 1, 0, 0), 1);
        due("none from beyond the end", x.copy(0, 4, 1, 0, 0), INDEX);
        due("none to beyond the end", x.copy(0, 3, 1, 1, 0), INDEX);
        due("none of none", x.copy(1, 0, 1, 0, 0), 1);
        due("one of none", x.copy(1, 0, 0, 0, 1), INDEX);
        items(x, 0, 1, 2, 3);
    }

    private static void copyIndex() {
        Checks.sentence("copy: INDEX: below 0, not so many");
        MazeCalendar x = counting(0, 5);
        x.sheet(1, 2, 4);
        due("the last four", x.copy(0, 1, 1, 0, 4), 1);
        int[][] wrong = {{-1, 0, 1}, {0, -1, 1}, {0, 0, -1}, {2, 0, 4}, {0, 1, 4}, {0, 0, 5}, {5, 0, 1}, {0, 4, 1},
            {LEAST, 0, 1}, {0, LEAST, 1}, {0, 0, LEAST}, {MOST, 0, 1}, {0, MOST, 1}, {0, 0, MOST}, {MOST, 0, MOST},
            {0, MOST, MOST}, {MOST, MOST, LEAST}, {5, 4, -1}, {-1, -1, 0}, {-1, 0, 0}, {0, -1, 0}, {LEAST, LEAST, LEAST}};
        for (int[] w : wrong) {
            x.lose(3);
            due("copy from " + w[0] + " to " + w[1] + " of " + w[2], x.copy(0, w[0], 1, w[1], w[2]), INDEX);
            due("its finding", x.count(8), 2);
        }
        items(x, 0, 1, 2, 3, 4, 5);
        items(x, 1, 2, 3, 4, 5);
    }

    private static void copyRefusals() {
        Checks.sentence("copy: BAD: the SHEETS; NULL: s, t; STORE; INDEX: the first that fits");
        MazeCalendar x = threeSheets();
        for (int s : NO_SHEET) {
            due("s " + s, x.copy(s, 0, 0, 0, 1), BAD);
            due("t " + s, x.copy(0, 0, s, 0, 1), BAD);
            due("both " + s, x.copy(s, 0, s, 0, 1), BAD);
            due("bad ahead of null, s " + s, x.copy(s, 0, 3, 0, 1), BAD);
            due("bad ahead of null, t " + s, x.copy(3, 0, s, 0, 1), BAD);
            due("bad ahead of index", x.copy(0, -1, s, 0, 1), BAD);
        }
        due("no finding", x.count(8), 0);
        due("s lost", x.copy(3, 0, 0, 0, 1), NULL);
        due("t lost", x.copy(0, 0, 3, 0, 1), NULL);
        due("both lost", x.copy(3, 0, 3, 0, 0), NULL);
        due("null ahead of index", x.copy(0, -1, 3, 0, 1), NULL);
        due("null ahead of index, n -1", x.copy(3, 0, 0, 0, -1), NULL);
        due("its finding", x.count(8), 1);
        for (int s = 0; s < 3; s++) {
            for (int t = 0; t < 3; t++) {
                due("from form " + s + " to " + t, x.copy(s, 0, t, 0, 1), s == t ? 1 : STORE);
                due("of none from form " + s + " to " + t, x.copy(s, 0, t, 0, 0), s == t ? 1 : STORE);
                due("store ahead of index, " + s + " to " + t, x.copy(s, 0, t, 0, 4), s == t ? INDEX : STORE);
            }
        }
        due("store", x.copy(0, 0, 1, 0, 1), STORE);
        due("its finding", x.count(8), 4);
    }

    private static void writeDays() {
        Checks.sentence("write: DAYS on which a WALKER is (NONE) behind 0 STEPS on, as many as there are items: how many");
        for (int form = 0; form < 3; form++) {
            MazeCalendar x = Checks.with(Checks.PATH, "35wl;36nl");
            x.sheet(0, form, 60);
            due("sixty", x.write(0, 0), 60);
            for (int i = 0; i < 60; i++) due("item " + i, x.get(0, form, i), x.on(0, i, 0));
            due("sixty of one nowhere", x.write(1, 0), 60);
            due("the first", x.get(0, form, 0), NONE);
            due("the last", x.get(0, form, 59), NONE);
            x.sheet(1, form, 1);
            due("one", x.write(0, 1), 1);
            due("behind 0", x.get(1, form, 0), 35);
            x.sheet(2, form, 0);
            due("none", x.write(0, 2), 0);
            due("none of one nowhere", x.write(1, 2), 0);
            due("no finding", x.count(8), 0);
        }
    }

    private static void writeRefusals() {
        Checks.sentence("write: BAD; NULL");
        MazeCalendar x = Checks.with("..", "00nl;02nl");
        x.sheet(0, 0, 2);
        for (int w : new int[] {-1, 2, 8, LEAST, MOST}) {
            due("walker " + w, x.write(w, 0), BAD);
            due("bad ahead of null, walker " + w, x.write(w, 3), BAD);
        }
        for (int s : NO_SHEET) due("sheet " + s, x.write(0, s), BAD);
        due("no finding", x.count(8), 0);
        due("lost", x.write(0, 3), NULL);
        due("its finding", x.count(8), 1);
        due("lost, and one nowhere", x.write(1, 1), NULL);
        due("lost still", x.lose(3), NULL);
    }

    private static void countBounds() {
        Checks.sentence("count: 0 DAYS .. 8 the number of the latest FINDING (0 before any). BAD");
        MazeCalendar x = Checks.with(Checks.ALL_OPEN, Checks.EIGHT);
        for (int n = 0; n < 9; n++) {
            x.hedge(0, 0, 0);
            x.gap(0, 0, 0);
            x.seen(0, 0);
        }
        int[] most = {36, 6, 8, 41, 39, 8, 8, 8, 0};
        for (int what = 0; what < 9; what++) due("count " + what, x.count(what), most[what]);
        for (int what : new int[] {-1, 9, LEAST, MOST}) due("count " + what, x.count(what), BAD);
    }

    private static void latestFinding() {
        Checks.sentence("FINDINGS (answers -10 less the number): 1 NULL, 2 INDEX, 3 CAST, 4 STORE, 5 SIZE; the latest");
        MazeCalendar x = threeSheets();
        due("none", x.count(8), 0);
        due("SIZE", x.sheet(0, 0, -1), -15);
        due("5", x.count(8), 5);
        due("STORE", x.copy(0, 0, 1, 0, 1), -14);
        due("4", x.count(8), 4);
        due("CAST", x.put(0, 1, 0, 1), -13);
        due("3", x.count(8), 3);
        due("INDEX", x.put(0, 0, 3, 1), -12);
        due("2", x.count(8), 2);
        due("NULL", x.lose(3), -11);
        due("1", x.count(8), 1);
        due("BAD is no finding", x.lose(4), BAD);
        due("1 stays", x.count(8), 1);
        due("what is well is none", x.put(0, 0, 0, 1), 1);
        due("1 stays", x.count(8), 1);
        x.undo(0);
        due("NOT is none", x.count(8), 1);
        due("a sheet made is none", x.sheet(3, 0, 1), 1);
        due("1 stays", x.count(8), 1);
    }

    private static void add(List<Long> all, long... values) {
        for (long v : values) all.add(v);
    }

    /** The digest as the document lists it, by the calls of the face. */
    private static long told(MazeCalendar x) {
        List<Long> all = new ArrayList<>();
        for (int what = 0; what <= 7; what++) add(all, x.count(what));
        add(all, x.fault(0), x.fault(1));
        for (int d = 0; d < x.count(0); d++) add(all, x.open(0, d), x.open(50, d), x.joined(5, d), x.way(5, 0, d), x.cut(5, 0, d));
        for (int w = 0; w < x.count(2); w++) {
            add(all, x.walker(w, 0), x.walker(w, 1), x.walker(w, 2), x.on(w, 7, 0), x.on(w, 7, 1), x.on(w, 99, 0));
            add(all, x.comes(w, 0), x.round(w));
        }
        add(all, x.meet(0, 1), x.trod(20, 0), x.trod(20, 1), x.guard(5, 0, 8, NONE), x.guard(5, 0, 8, 0));
        for (int hand = 0; hand < 3; hand++) add(all, x.began(hand, NONE), x.began(hand, 0), x.look(hand, 9));
        add(all, x.stray(5, 0, 5, 1, 0), x.stray(5, 0, 5, 1, 1), x.child(7, 0, 30, 0), x.child(7, 0, 30, 1));
        long h = 17;
        for (long v : all) h = 31 * h + v;
        return h;
    }

    private static void digestAsTold() {
        Checks.sentence("digest: h becomes 31 h and each of .. (as it is told); as longs that wrap");
        String[] mazes = {"", ";", ".", "r.", "rrr;rrb", "bbbb;bbbb", "bbb;bbb;bbb", Checks.PATH, Checks.ALL_OPEN, Checks.ALL_SHUT};
        String[] walkers = {"", "0", "00nl", "39wa", "00nl;01ea", Checks.EIGHT};
        for (String maze : mazes) {
            for (String walker : walkers) {
                MazeCalendar x = Checks.with(maze, walker);
                due("digest of " + maze + " and " + walker, x.digest(), told(x));
            }
        }
    }

    private static void digestOfTheSteps() {
        Checks.sentence("digest: open(0, it), open(50, it), joined(5, it), .. look(it, 9)");
        for (int step : new int[] {0, 1, 5, 6, 50, 51, 99}) {
            MazeCalendar x = Checks.with("bbb;b.b;bbb", "00el;08wr");
            x.gap(step, 4, 0);
            x.gap(step, 3, 0);
            x.hedge(step, 0, 1);
            x.seen(9, 4);
            due("changes in step " + step, x.digest(), told(x));
        }
        // Each of these calls tells otherwise in the step ahead of its own, or behind it.
        for (int step : new int[] {0, 1, 4, 5, 6, 9, 10, 19, 20, 21, 29, 30, 49, 50, 51, 98, 99}) {
            MazeCalendar path = Checks.with("rrd;..d;...", "00el;08nr");
            path.hedge(step, 0, 0);
            due("a path closed in step " + step, path.digest(), told(path));
            MazeCalendar shut = Checks.with("...;...;...", "00el;08nr");
            shut.gap(step, 0, 0);
            shut.gap(step, 7, 0);
            due("gaps cut in step " + step, shut.digest(), told(shut));
        }
    }

    private static void digestChangesNothing() {
        Checks.sentence("digest: it changes nothing, and is of count() 0 to 7, not 8");
        MazeCalendar x = Checks.with(Checks.ALL_OPEN, Checks.EIGHT);
        long before = x.digest();
        due("no finding", x.count(8), 0);
        due("NULL", x.lose(0), NULL);
        due("a finding does not count", x.digest(), before);
        x.sheet(0, 2, 60);
        due("nor does a sheet", x.digest(), before);
        due("the finding stays", x.count(8), 1);
        x.seen(0, 0);
        due("what is seen does", x.digest() == before ? 0 : 1, 1);
        x.forget();
        due("until it is forgotten", x.digest(), before);
    }

    private static void to512Calls() {
        Checks.sentence("An object is used for at most 512 calls");
        MazeCalendar x = Checks.with(Checks.ALL_OPEN, Checks.EIGHT);
        long first = x.digest();
        for (int call = 82; call <= 512; call++) due("call " + call, x.digest(), first);
        MazeCalendar y = new MazeCalendar();
        for (int call = 1; call <= 512; call++) due("call " + call, y.type(0, '.'), call <= 41 ? call : Checks.FULL);
    }

    public static void main(String[] args) {
        sheetsAndForms();
        itemsOfASheet();
        aNewRow();
        sheetRefusals();
        loseSheets();
        lowestBits();
        putRefusals();
        getRefusals();
        copyAsTheyWere();
        copyOfNone();
        copyIndex();
        copyRefusals();
        writeDays();
        writeRefusals();
        countBounds();
        latestFinding();
        digestAsTold();
        digestOfTheSteps();
        digestChangesNothing();
        to512Calls();
        Checks.end();
    }
}
