/** The boundary cases of the two texts: the terms of them, and promises 1 to 6. */
public final class TextBoundsTest {
    private static final int NONE = Checks.NONE, BAD = Checks.BAD, NOT = Checks.NOT, FULL = Checks.FULL;
    private static final int[] NO_TEXT = {-1, 2, Checks.LEAST, Checks.MOST};

    private static void due(String call, long got, long want) {
        Checks.due(call, got, want);
    }

    /** A text with its FAULT; with one there is nothing of it, without one all of it. */
    private static void fault(int text, String signs, int want) {
        MazeCalendar x = new MazeCalendar();
        Checks.type(x, text, signs);
        due("fault of " + signs, x.fault(text), want);
        due("fault of the other text", x.fault(1 - text), NONE);
        due("bytes of " + signs, x.count(3 + text), signs.length());
        String[] parts = signs.isEmpty() || want != NONE ? new String[0] : signs.split(";", -1);
        due("rows or walkers of " + signs, x.count(1 + text), parts.length);
        if (text == 0) due("days of " + signs, x.count(0), parts.length == 0 ? 0 : parts.length * parts[0].length());
    }

    /** Of all bytes behind a text that goes on, only those told may come there. */
    private static void onlyThese(int text, String ahead, String may) {
        for (int b = 0; b < 256; b++) {
            MazeCalendar x = new MazeCalendar();
            Checks.type(x, text, ahead);
            x.type(text, b);
            boolean stands = x.fault(text) == NONE || x.fault(text) == ahead.length() + 1;
            due("byte " + b + " behind " + ahead, stands ? 1 : 0, may.indexOf(b) >= 0 ? 1 : 0);
            if (!stands) due("fault at byte " + b + " behind " + ahead, x.fault(text), ahead.length());
        }
    }

    private static void aNewObject() {
        Checks.sentence("No DAYS, no WALKERS; all SHEETS are LOST");
        MazeCalendar x = new MazeCalendar();
        for (int what = 0; what <= 8; what++) due("count " + what, x.count(what), 0);
        due("day 0", x.open(0, 0), BAD);
        due("walker 0", x.walker(0, 0), BAD);
        for (int s = 0; s < 4; s++) due("sheet " + s, x.lose(s), Checks.NULL);
        for (int s = 0; s < 4; s++) due("read " + s, x.read(s), Checks.NULL);
    }

    private static void twoObjectsShareNothing() {
        Checks.sentence("A new object: No DAYS, no WALKERS, whatever another one has");
        MazeCalendar one = Checks.with(Checks.ALL_OPEN, Checks.EIGHT);
        one.sheet(0, 2, 60);
        one.hedge(0, 0, 0);
        one.gap(0, 0, 0);
        one.seen(0, 0);
        long before = one.digest();
        MazeCalendar other = new MazeCalendar();
        for (int what = 0; what <= 8; what++) due("count " + what, other.count(what), 0);
        Checks.type(other, 0, "r.");
        Checks.type(other, 1, "01wa");
        other.gap(0, 1, 1);
        other.seen(9, 9);
        due("the first one stays", one.digest(), before);
        due("its sheet stays", one.lose(0), 60);
    }

    private static void mazeOf41Bytes() {
        Checks.sentence("THE MAZE is a text of up to 41 bytes");
        MazeCalendar x = new MazeCalendar();
        for (int n = 1; n <= 41; n++) due("byte " + n, x.type(0, Checks.ALL_OPEN.charAt(n - 1)), n);
        due("byte 42", x.type(0, '.'), FULL);
        due("byte 43", x.type(0, ';'), FULL);
        due("bytes", x.count(3), 41);
        due("its fault", x.fault(0), NONE);
        due("its days", x.count(0), 36);
        due("one undone", x.undo(0), 40);
        due("one again", x.type(0, '.'), 41);
        due("full again", x.type(0, '.'), FULL);
        due("the other text is not full", x.type(1, '0'), 1);
    }

    private static void walkersOf39Bytes() {
        Checks.sentence("WALKERS are a text of up to 39 bytes");
        MazeCalendar x = new MazeCalendar();
        for (int n = 1; n <= 39; n++) due("byte " + n, x.type(1, Checks.EIGHT.charAt(n - 1)), n);
        due("byte 40", x.type(1, ';'), FULL);
        due("bytes", x.count(4), 39);
        due("its fault", x.fault(1), NONE);
        due("its walkers", x.count(2), 8);
        due("one undone", x.undo(1), 38);
        due("one again", x.type(1, 'l'), 39);
        due("full again", x.type(1, 'l'), FULL);
        due("the other text is not full", x.type(0, '.'), 1);
    }

    private static void fullWithAFault() {
        Checks.sentence("A byte (0 to 255) comes behind a text: how many. BAD; FULL (with a FAULT, too)");
        MazeCalendar x = new MazeCalendar();
        for (int n = 1; n <= 41; n++) due("byte " + n, x.type(0, 255), n);
        due("byte 42", x.type(0, 255), FULL);
        for (int n = 1; n <= 39; n++) due("byte " + n, x.type(1, 0), n);
        due("byte 40", x.type(1, 0), FULL);
        due("wipe", x.wipe(0), 41);
        due("the first again", x.type(0, '.'), 1);
    }

    private static void sixRows() {
        Checks.sentence("ROWS, 6 at most");
        String rows = ".";
        for (int n = 1; n <= 6; n++) {
            fault(0, rows, NONE);
            rows += ";.";
        }
        fault(0, rows, 12);
        fault(0, "rrrrrr;rrrrrr;rrrrrr;rrrrrr;rrrrrr;rrrrrr", NONE);
    }

    private static void betweenRows() {
        Checks.sentence("with ; between them (ROWS)");
        fault(0, ";", 0);
        fault(0, ";.", 0);
        fault(0, ".;", 2);
        fault(0, ".;;.", 2);
        fault(0, ".:.", 1);
        fault(0, ".;.", NONE);
    }

    private static void daysOfARow() {
        Checks.sentence("each of as many DAYS (1 to 6) as the first one");
        String row = "";
        for (int n = 1; n <= 6; n++) {
            row += "b";
            fault(0, row, NONE);
            fault(0, row + ";" + row, NONE);
            fault(0, row + ";" + row + "b", 2 * n + 1);
            fault(0, row + ";" + row.substring(1), 2 * n);
            fault(0, row + ";" + row.substring(1) + ";" + row, 2 * n);
        }
        fault(0, row + "b", 6);
        fault(0, row + "b;" + row + "b", 6);
        fault(0, row + ";" + row + ";" + row + ";" + row + ";" + row + ";bbbbb", 40);
        fault(0, "r;r;r;r;r;rr", 11);
    }

    private static void signsOfADay() {
        Checks.sentence(". (open to none), r (to the one on its right), d (to the one under it), b (to both)");
        onlyThese(0, "", ".rdb");
        onlyThese(0, "r", ".rdb;");
        onlyThese(0, "rdb.rd", ";");
        onlyThese(0, "rd;", ".rdb");
        onlyThese(0, "rd;b", ".rdb");
        onlyThese(0, "rd;b.", ";");
        int[] open = {0, 2, 4, 6};
        for (int k = 0; k < 4; k++) due("open of " + ".rdb".charAt(k), Checks.with(".rdb".charAt(k) + ".;..").open(0, 0), open[k]);
    }

    private static void beyondTheEdge() {
        Checks.sentence("what would be beyond the edge is nothing");
        due("one day alone", Checks.with("b", "00el").open(0, 0), 0);
        due("its walker stays", Checks.with("b", "00el").on(0, 99, 0), 0);
        MazeCalendar x = Checks.with("bb;bb", "01ea;03sa");
        int[] open = {6, 12, 3, 9};
        for (int d = 0; d < 4; d++) due("open of " + d, x.open(0, d), open[d]);
        MazeCalendar shut = Checks.with(".r;.r;dd");
        for (int d = 0; d < 6; d++) due("open of " + d, shut.open(0, d), 0);
        due("no way to the next row", shut.way(0, 1, 2), NONE);
        due("joined to none", shut.joined(99, 5), 1);
        MazeCalendar whole = Checks.with(Checks.ALL_OPEN);
        due("the corner 0", whole.open(0, 0), 6);
        due("the corner 5", whole.open(0, 5), 12);
        due("the corner 30", whole.open(0, 30), 3);
        due("the corner 35", whole.open(0, 35), 9);
    }

    private static void numbersOfDays() {
        Checks.sentence("DAYS are numbered from 0 on, as they come (0 to 35)");
        MazeCalendar x = Checks.with(Checks.ALL_OPEN);
        due("the last", x.open(0, 35), 9);
        due("one more", x.open(0, 36), BAD);
        due("one less", x.open(0, -1), BAD);
        MazeCalendar wide = Checks.with("..r.;....");
        due("the third of the first row", wide.open(0, 2), 2);
        due("day 7", wide.open(0, 7), 0);
        due("day 8", wide.open(0, 8), BAD);
        MazeCalendar high = Checks.with("..;.r;..;..");
        due("the second of the second row has none on its right", high.open(0, 3), 0);
        due("day 7", high.open(0, 7), 0);
        due("day 8", high.open(0, 8), BAD);
    }

    private static void eightWalkers() {
        Checks.sentence("WALKERS, 8 at most (0 on)");
        String walkers = "39wa";
        for (int n = 1; n <= 8; n++) {
            MazeCalendar x = Checks.with("", walkers);
            due("how many", x.count(2), n);
            due("the last of " + n, x.walker(n - 1, 0), 39);
            due("one more than " + n, x.walker(n, 0), BAD);
            walkers += ";39wa";
        }
    }

    private static void ninthWalker() {
        Checks.sentence("FAULT: of a ninth WALKER (no text is long enough for one: 8 are 39 bytes)");
        MazeCalendar x = Checks.with("", Checks.EIGHT);
        due("its ;", x.type(1, ';'), FULL);
        due("its first byte", x.type(1, '0'), FULL);
        due("eight stay", x.count(2), 8);
        due("no fault", x.fault(1), NONE);
    }

    private static void signsOfAWalker() {
        Checks.sentence("a figure 0 to 3 and a figure (00 to 39), n, e, s or w, and l, r or a");
        onlyThese(1, "", "0123");
        onlyThese(1, "0", "0123456789");
        onlyThese(1, "3", "0123456789");
        onlyThese(1, "00", "nesw");
        onlyThese(1, "39s", "lra");
        onlyThese(1, "39wa", ";");
        onlyThese(1, "39wa;", "0123");
        onlyThese(1, "39wa;00nl;2", "0123456789");
        for (int day = 0; day < 40; day++) {
            MazeCalendar x = Checks.with("", "" + day / 10 + day % 10 + "nesw".charAt(day % 4) + "lra".charAt(day % 3));
            due("day " + day, x.walker(0, 0), day);
            due("way " + day % 4, x.walker(0, 1), day % 4);
            due("hand " + day % 3, x.walker(0, 2), day % 3);
        }
    }

    private static void firstByte() {
        Checks.sentence("The FAULT of a text is the place of the first byte with which it cannot go on");
        fault(0, "x", 0);
        fault(0, "xx", 0);
        fault(0, "rx;x", 1);
        fault(0, "rr;rx", 4);
        fault(0, "rr;x;", 3);
        fault(0, Checks.ALL_OPEN.substring(0, 40) + "x", 40);
        fault(1, "x", 0);
        fault(1, "00nl;00nx;x", 8);
        fault(1, "4", 0);
        fault(1, "00nl;40nl", 5);
        fault(1, Checks.EIGHT.substring(0, 38) + "x", 38);
    }

    private static void emptyIsWell() {
        Checks.sentence("(an empty one is well");
        fault(0, "", NONE);
        fault(1, "", NONE);
        MazeCalendar x = Checks.with("x", "x");
        due("undone", x.undo(0), 0);
        due("well again", x.fault(0), NONE);
        due("wiped", x.wipe(1), 1);
        due("well again", x.fault(1), NONE);
    }

    private static void notEnded() {
        Checks.sentence("of one that is not ended, its end");
        for (int n = 1; n < 39; n++) fault(1, Checks.EIGHT.substring(0, n), n % 5 == 4 ? NONE : n);
        for (int n = 1; n < 41; n++) {
            boolean whole = n % 7 == 6 || n < 6;
            fault(0, Checks.ALL_OPEN.substring(0, n), whole ? NONE : n);
        }
    }

    private static void rowTooShort() {
        Checks.sentence("of a ROW that is too short, its end, or its ;");
        fault(0, "bb;", 3);
        fault(0, "bb;b", 4);
        fault(0, "bb;;", 3);
        fault(0, "bb;b;", 4);
        fault(0, "bb;b;bb", 4);
        fault(0, "bb;bb;b", 7);
        fault(0, "bb;bb;b;", 7);
        fault(0, "b;", 2);
        fault(0, "b;;", 2);
    }

    private static void dayTooMany() {
        Checks.sentence("here also of a DAY too many");
        fault(0, "bbbbbbb", 6);
        fault(0, "bbbbbb.", 6);
        fault(0, "b;bb", 3);
        fault(0, "bb;bb;bbb", 8);
        fault(0, "bbbbbb;bbbbbbb", 13);
    }

    private static void seventhRow() {
        Checks.sentence("of the first byte of a seventh ROW");
        fault(0, ".;.;.;.;.;.", NONE);
        fault(0, ".;.;.;.;.;.;", 12);
        for (char b : new char[] {'.', 'b', ';', 'x', 0, 255}) fault(0, ".;.;.;.;.;.;" + b, 12);
        fault(0, ".;.;.;.;.;.;.;.", 12);
        fault(0, "...;...;...;...;...;...;.", 24);
        fault(0, ".....;.....;.....;.....;.....;.....;.....", 36);
    }

    private static void asIfEmpty() {
        Checks.sentence("With a FAULT a text is as if it was empty");
        MazeCalendar x = Checks.with("rr;..", "01wl;01na");
        x.type(0, ';');
        due("days", x.count(0), 0);
        due("rows", x.count(1), 0);
        due("open", x.open(0, 0), BAD);
        due("way", x.way(0, 0, 0), BAD);
        due("child", x.child(0, 0, 1, 0), BAD);
        due("stray", x.stray(0, 0, 0, 0, 0), Checks.BAD_LONG);
        due("began", x.began(0, NONE), 0);
        due("walkers are nowhere", x.on(0, 0, 0), NONE);
        due("they come nowhere", x.comes(0, 0), BAD);
        due("they do not meet", x.meet(0, 1), NONE);
        due("nor go round", x.round(0), NONE);
        due("nor tread", x.trod(99, 0), 0);
        due("undone", x.undo(0), 5);
        due("days again", x.count(0), 4);
        due("on a day again", x.on(0, 1, 0), 0);
        x.type(1, '.');
        due("walkers", x.count(2), 0);
        due("walker 0", x.walker(0, 0), BAD);
        due("on", x.on(0, 0, 0), BAD);
        due("meet", x.meet(0, 1), BAD);
        due("undone", x.undo(1), 9);
        due("walkers again", x.count(2), 2);
        due("they meet again", x.meet(0, 1), 0);
    }

    private static void typeOfBytes() {
        Checks.sentence("A byte (0 to 255) comes behind a text: how many. BAD");
        for (int text = 0; text < 2; text++) {
            MazeCalendar x = new MazeCalendar();
            due("byte 0", x.type(text, 0), 1);
            due("byte 255", x.type(text, 255), 2);
            for (int b : new int[] {-1, 256, -256, 302, Checks.LEAST, Checks.MOST}) due("byte " + b, x.type(text, b), BAD);
            due("bytes", x.count(3 + text), 2);
        }
        MazeCalendar x = new MazeCalendar();
        for (int text : NO_TEXT) due("text " + text, x.type(text, '.'), BAD);
        due("no bytes", x.count(3) + x.count(4), 0);
    }

    private static void typeRefusals() {
        Checks.sentence("type: BAD; FULL: the first that fits");
        MazeCalendar x = Checks.with(Checks.ALL_OPEN, Checks.EIGHT);
        for (int text = 0; text < 2; text++) {
            due("byte -1", x.type(text, -1), BAD);
            due("byte 256", x.type(text, 256), BAD);
            due("byte 0", x.type(text, 0), FULL);
            due("byte 255", x.type(text, 255), FULL);
        }
        for (int text : NO_TEXT) due("text " + text, x.type(text, 256), BAD);
    }

    private static void wipeOfTexts() {
        Checks.sentence("A text is empty: how many bytes it had. BAD");
        MazeCalendar x = Checks.with(Checks.ALL_OPEN, Checks.EIGHT);
        for (int text : NO_TEXT) due("text " + text, x.wipe(text), BAD);
        due("nothing is gone", x.count(3) + x.count(4), 80);
        due("of a full one", x.wipe(0), 41);
        due("of an empty one", x.wipe(0), 0);
        due("the other one stays", x.count(2), 8);
        due("of the other", x.wipe(1), 39);
        due("of an empty one", x.wipe(1), 0);
        due("text 2 when all are empty", x.wipe(2), BAD);
        Checks.type(x, 0, ";;;");
        due("of one with a fault", x.wipe(0), 3);
        due("it is well", x.fault(0), NONE);
    }

    private static void nothingStays() {
        Checks.sentence("A text is empty (wipe), its last byte is undone: nothing of an earlier maze stays");
        MazeCalendar x = Checks.with(Checks.ALL_OPEN);
        x.wipe(0);
        Checks.type(x, 0, "bb;bb");
        int[] open = {6, 12, 3, 9};
        for (int d = 0; d < 4; d++) due("a small maze behind a large one, " + d, x.open(0, d), open[d]);
        x.wipe(0);
        Checks.type(x, 0, "..;..");
        for (int d = 0; d < 4; d++) due("a shut one behind an open one, " + d, x.open(0, d), 0);
        MazeCalendar y = Checks.with("b.;.b");
        due("undone", y.undo(0), 4);
        due("another", y.type(0, '.'), 5);
        due("the first day stays", y.open(0, 0), 6);
        for (int n = 4; n >= 0; n--) y.undo(0);
        Checks.type(y, 0, "..;..");
        for (int d = 0; d < 4; d++) due("all undone, " + d, y.open(0, d), 0);
        MazeCalendar w = Checks.with("", "39wa;38sr");
        w.wipe(1);
        due("no walker", w.walker(0, 0), BAD);
        Checks.type(w, 1, "00nl");
        due("another walker", w.walker(0, 0), 0);
        due("the second is gone", w.walker(1, 0), BAD);
    }

    private static void undoOfTexts() {
        Checks.sentence("The last byte of a text is undone: how many are left. BAD; NOT: it is empty");
        MazeCalendar x = Checks.with("r", "0");
        for (int text : NO_TEXT) due("text " + text, x.undo(text), BAD);
        for (int text = 0; text < 2; text++) {
            due("the one byte", x.undo(text), 0);
            due("none", x.undo(text), NOT);
            due("none again", x.undo(text), NOT);
        }
        for (int text : NO_TEXT) due("bad ahead of not, text " + text, x.undo(text), BAD);
        Checks.type(x, 0, Checks.ALL_OPEN);
        for (int n = 40; n >= 0; n--) due("undone", x.undo(0), n);
        due("none", x.undo(0), NOT);
        Checks.type(x, 1, Checks.EIGHT);
        for (int n = 38; n >= 0; n--) due("undone", x.undo(1), n);
        due("none", x.undo(1), NOT);
    }

    private static void faultOfTexts() {
        Checks.sentence("The FAULT of a text; NONE. BAD");
        MazeCalendar x = Checks.with(";", "39wa;");
        due("text 0", x.fault(0), 0);
        due("text 1", x.fault(1), 5);
        for (int text : NO_TEXT) due("text " + text, x.fault(text), BAD);
    }

    private static void walkerAsTold() {
        Checks.sentence("The DAY, the way that it HEADS, its HAND of a WALKER, as told. BAD");
        MazeCalendar x = Checks.with("..", "39wa;00nl");
        due("on a day that there is not, as told", x.walker(0, 0), 39);
        due("its way", x.walker(0, 1), 3);
        due("its hand", x.walker(0, 2), 2);
        due("the last walker", x.walker(1, 2), 0);
        for (int w : new int[] {-1, 2, 8, Checks.LEAST, Checks.MOST}) due("walker " + w, x.walker(w, 0), BAD);
        for (int what : new int[] {-1, 3, Checks.LEAST, Checks.MOST}) due("what " + what, x.walker(0, what), BAD);
        due("of no walkers", Checks.with("..").walker(0, 0), BAD);
    }

    public static void main(String[] args) {
        aNewObject();
        twoObjectsShareNothing();
        mazeOf41Bytes();
        walkersOf39Bytes();
        fullWithAFault();
        sixRows();
        betweenRows();
        daysOfARow();
        signsOfADay();
        beyondTheEdge();
        numbersOfDays();
        eightWalkers();
        ninthWalker();
        signsOfAWalker();
        firstByte();
        emptyIsWell();
        notEnded();
        rowTooShort();
        dayTooMany();
        seventhRow();
        asIfEmpty();
        typeOfBytes();
        typeRefusals();
        wipeOfTexts();
        nothingStays();
        undoOfTexts();
        faultOfTexts();
        walkerAsTold();
        Checks.end();
    }
}
