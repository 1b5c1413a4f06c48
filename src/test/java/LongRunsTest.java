import java.util.ArrayList;
import java.util.List;
import java.util.Random;
import java.util.function.ToLongFunction;

/**
 * Runs of all the 512 calls for which an object is used: the same acts over and over, one maze after
 * another, and many questions in one order and in the other. The answers are told by hand, or by an
 * object that is new and has had no such past.
 */
public final class LongRunsTest {
    private static final int NONE = Checks.NONE, NOT = Checks.NOT, FULL = Checks.FULL;
    private static final int CALLS = 512;

    // Counted, so that no run makes more calls than an object is used for.
    private static int calls;
    private static MazeCalendar x;

    private static void begin(String sentence) {
        Checks.sentence(sentence);
        x = new MazeCalendar();
        calls = 0;
    }

    private static void due(String call, long got, long want) {
        calls++;
        Checks.due("call " + calls + ", " + call, got, want);
    }

    private static boolean isRoomFor(int more) {
        return calls + more <= CALLS;
    }

    private static void type(int text, String signs) {
        for (int n = 0; n < signs.length(); n++) due("type", x.type(text, signs.charAt(n)), n + 1);
    }

    /** The rest of the calls; the last of them must still be answered as the first was. */
    private static void askTo512(long digest) {
        while (isRoomFor(1)) due("digest", x.digest(), digest);
        Checks.due("calls made", calls, CALLS);
    }

    // ---- the same acts over and over

    /** How many days there are behind n bytes of six rows of six: a row alone, or whole rows. */
    private static int daysBehind(int n) {
        return n <= 6 ? n : n % 7 == 6 ? 6 * ((n + 1) / 7) : 0;
    }

    private static void typeAndUndo() {
        begin("A byte comes behind a text: how many; the last byte of a text is undone: how many are left");
        while (isRoomFor(4 * 41 + 2)) {
            for (int n = 1; n <= 41; n++) {
                due("type", x.type(0, Checks.PATH.charAt(n - 1)), n);
                due("days", x.count(0), daysBehind(n));
            }
            due("type of one more", x.type(0, '.'), FULL);
            for (int n = 40; n >= 0; n--) {
                due("undo", x.undo(0), n);
                due("fault", x.fault(0), n == 0 || daysBehind(n) > 0 ? NONE : n);
            }
            due("undo of an empty one", x.undo(0), NOT);
        }
        askTo512(new MazeCalendar().digest());
    }

    private static void walkersOverAndOver() {
        begin("WALKERS are a text: typed, wiped and typed again");
        type(0, "r.");
        while (isRoomFor(46)) {
            type(1, Checks.EIGHT);
            due("walkers", x.count(2), 8);
            due("of one that began on 0", x.on(0, 99, 0), 1);
            due("of one nowhere", x.on(1, 99, 0), NONE);
            due("one byte more", x.type(1, ';'), FULL);
            due("wipe", x.wipe(1), 39);
            due("walkers then", x.count(2), 0);
            due("of none", x.on(0, 99, 0), Checks.BAD);
        }
        askTo512(Checks.with("r.").digest());
    }

    private static void placesOverAndOver() {
        begin("A HEDGE more, a GAP more; the last is undone, in each STEP");
        type(0, "bb;bb");
        long digest = Checks.with("bb;bb").digest();
        for (int step = 1; isRoomFor(9); step += 2) {
            due("hedge", x.hedge(step, 0, 0), 1);
            due("open ahead of it", x.open(step - 1, 0), 6);
            due("open in its step", x.open(step, 0), 4);
            due("gap in its step", x.gap(step, 0, 0), 1);
            due("open then", x.open(step, 0), 6);
            due("back of the hedge", x.back(0), 0);
            due("back of the gap", x.back(1), 0);
            due("back of no hedge", x.back(0), NOT);
            due("back of no gap", x.back(1), NOT);
            if (step > 97) step = -1;
        }
        askTo512(digest);
    }

    private static void eightPlacesOverAndOver() {
        begin("HEDGES, GAPS, 8 at most: as often as they are undone");
        type(0, "......;......");
        while (isRoomFor(4 * 8 + 6)) {
            for (int n = 1; n <= 8; n++) {
                due("gap", x.gap(n, n % 5, 0), n);
                due("hedge", x.hedge(9, n % 5, 0), n);
            }
            due("a ninth gap", x.gap(0, 0, 0), FULL);
            due("a ninth hedge", x.hedge(0, 0, 0), FULL);
            due("joined by the gaps", x.joined(8, 0), 6);
            due("parted by the hedges", x.joined(9, 0), 1);
            for (int n = 7; n >= 0; n--) {
                due("hedge back", x.back(0), n);
                due("gap back", x.back(1), n);
            }
            due("no hedge", x.count(5), 0);
            due("no gap", x.count(6), 0);
        }
        askTo512(Checks.with("......;......").digest());
    }

    private static void seenOverAndOver() {
        begin("SEEN, 8 at most; all SEEN are forgotten");
        type(0, Checks.CROSS);
        for (int day = 0; isRoomFor(8 + 6); day = (day + 1) % 9) {
            for (int n = 1; n <= 8; n++) due("seen", x.seen(0, day), n);
            due("a ninth", x.seen(0, day), FULL);
            due("where it began", x.began(day % 3, 0), 4 * day);
            due("in how many ways", x.began(day % 3, NONE), 4);
            due("where to look", x.look(day % 3, 0), day);
            due("forgotten", x.forget(), 8);
            due("then anywhere", x.began(day % 3, NONE), 36);
        }
        askTo512(Checks.with(Checks.CROSS).digest());
    }

    private static void sheetsOverAndOver() {
        begin("A SHEET is a new row; it is LOST; the latest FINDING");
        int[] lowest = {(byte) 1000003, (short) 1000003, 1000003};
        for (int k = 0; isRoomFor(13); k++) {
            int s = k % 4, t = (k + 1) % 4, form = k % 3, n = 1 + k * 7 % 60;
            due("get of a lost one", x.get(s, form, 0), Checks.LEAST);
            due("finding", x.count(8), 1);
            due("sheet", x.sheet(s, form, n), n);
            due("0 at first", x.get(s, form, 0), 0);
            due("put", x.put(s, form, n - 1, 1000003), 1);
            due("get", x.get(s, form, n - 1), lowest[form]);
            due("beyond its end", x.put(s, form, n, 1), Checks.INDEX);
            due("as another", x.put(s, (form + 1) % 3, 0, 1), Checks.CAST);
            due("finding of that", x.count(8), 3);
            due("copy to a lost one", x.copy(s, 0, t, 0, n), Checks.NULL);
            due("onto itself", x.copy(s, n - 1, s, 0, 1), 1);
            due("its first", x.get(s, form, 0), lowest[form]);
            due("lose", x.lose(s), n);
        }
        askTo512(new MazeCalendar().digest());
    }

    private static void readAndWriteOverAndOver() {
        begin("GAPS from a SHEET; DAYS on which a WALKER is come to a SHEET");
        type(0, "...");
        type(1, "00ea");
        due("a sheet for gaps", x.sheet(0, 0, 6), 6);
        due("the first from step 0", x.put(0, 0, 0, 0), 1);
        due("the second from step 3", x.put(0, 0, 3, 3), 1);
        due("on the right of day 1", x.put(0, 0, 4, 1), 1);
        due("a sheet for days", x.sheet(1, 2, 6), 6);
        int[] shut = {0, 0, 0, 0, 0, 0}, open = {0, 1, 0, 1, 2, 1};
        while (isRoomFor(18)) {
            due("write", x.write(0, 1), 6);
            for (int i = 0; i < 6; i++) due("day " + i, x.get(1, 2, i), shut[i]);
            due("read", x.read(0), 2);
            due("write with gaps", x.write(0, 1), 6);
            for (int i = 0; i < 6; i++) due("day " + i, x.get(1, 2, i), open[i]);
            due("gap back", x.back(1), 1);
            due("gap back", x.back(1), 0);
        }
        askTo512(Checks.with("...", "00ea").digest());
    }

    // ---- one maze after another

    private static void mazesInTurn() {
        String[] mazes = {Checks.PATH, ".", Checks.ALL_OPEN, "r;r;r;d;b;.", "bbbbbb", "rd;r.", Checks.CROSS, "rrr", "bd", Checks.ALL_SHUT};
        begin("THE MAZE is a text: one maze after another, as each of them alone");
        type(1, "00el;08wr");
        due("hedge", x.hedge(3, 7, 1), 1);
        due("gap", x.gap(2, 1, 0), 1);
        due("seen", x.seen(4, 1), 1);
        long last = 0;
        for (int k = 0; isRoomFor(45); k = (k + 1) % mazes.length) {
            type(0, mazes[k]);
            MazeCalendar alone = Checks.with(mazes[k], "00el;08wr");
            alone.hedge(3, 7, 1);
            alone.gap(2, 1, 0);
            alone.seen(4, 1);
            due("digest of " + mazes[k], x.digest(), alone.digest());
            due("wipe", x.wipe(0), mazes[k].length());
            last = x.digest();
            calls++;
        }
        askTo512(last);
    }

    // ---- questions change nothing

    private static MazeCalendar busyOne() {
        MazeCalendar y = Checks.with("bdrbdd;brbd.d;rbbrbd;.brdbd;brbbdd;rrrr..", Checks.EIGHT);
        for (int n = 0; n < 8; n++) {
            y.hedge(13 * n, 4 * n, n % 2);
            y.gap(12 * n + 3, 3 * n + 1, 1);
        }
        y.seen(0, 14);
        y.sheet(0, 1, 60);
        y.write(2, 0);
        return y;
    }

    // How many calls busyOne makes.
    private static final int BUSY_CALLS = 41 + 39 + 16 + 3;

    private static ToLongFunction<MazeCalendar> walkQuestion(Random random) {
        int n = random.nextInt(100), d = random.nextInt(36), a = random.nextInt(8), b = random.nextInt(8), what = random.nextInt(2);
        switch (random.nextInt(7)) {
            case 0: return y -> y.open(n, d);
            case 1: return y -> y.on(a, n, what);
            case 2: return y -> y.comes(a, d);
            case 3: return y -> y.meet(a, b);
            case 4: return y -> y.round(a);
            case 5: return y -> y.trod(n, what);
            default: return y -> y.walker(a, what);
        }
    }

    private static ToLongFunction<MazeCalendar> wayQuestion(Random random) {
        int n = random.nextInt(100), a = random.nextInt(36), b = random.nextInt(36), c = random.nextInt(36), i = random.nextInt(3) - 1;
        switch (random.nextInt(6)) {
            case 0: return y -> y.way(n, a, b);
            case 1: return y -> y.through(n, a, b, c);
            case 2: return y -> y.joined(n, a);
            case 3: return y -> y.hear(n, a, a + 1);
            case 4: return y -> y.cut(n, a, b);
            default: return y -> y.guard(n, a, b, i);
        }
    }

    private static ToLongFunction<MazeCalendar> seenQuestion(Random random) {
        int n = random.nextInt(100), a = random.nextInt(36), b = random.nextInt(36), hand = random.nextInt(3), what = random.nextInt(2);
        int i = random.nextInt(6) - 1, few = random.nextInt(9), seed = random.nextInt(), item = random.nextInt(60);
        switch (random.nextInt(7)) {
            case 0: return y -> y.began(hand, i);
            case 1: return y -> y.look(hand, n);
            case 2: case 3: return y -> y.stray(n, a, few, b, what);
            case 4: return y -> y.child(seed, a, n, what);
            case 5: return y -> y.get(0, 1, item);
            default: return y -> y.digest();
        }
    }

    private static ToLongFunction<MazeCalendar> question(Random random) {
        switch (random.nextInt(3)) {
            case 0: return walkQuestion(random);
            case 1: return wayQuestion(random);
            default: return seenQuestion(random);
        }
    }

    private static void manyQuestions(int seed) {
        begin("Nothing is promised beyond the answers: a question changes nothing, in whatever order they come");
        Random random = new Random(seed);
        x = busyOne();
        calls = BUSY_CALLS;
        List<ToLongFunction<MazeCalendar>> questions = new ArrayList<>();
        List<Long> answers = new ArrayList<>();
        for (int k = 0; calls + 2 * (k + 1) <= CALLS; k++) {
            questions.add(question(random));
            // One who was never asked anything else.
            answers.add(questions.get(k).applyAsLong(busyOne()));
        }
        for (int k = 0; k < questions.size(); k++) due("question " + k, questions.get(k).applyAsLong(x), answers.get(k));
        for (int k = questions.size() - 1; k >= 0; k--) due("question " + k + " again", questions.get(k).applyAsLong(x), answers.get(k));
        askTo512(busyOne().digest());
    }

    // ---- two objects, call by call in turn

    private static void twoInTurn() {
        begin("An object is used for at most 512 calls: another one beside it changes nothing");
        MazeCalendar other = new MazeCalendar();
        MazeCalendar[] both = {x, other};
        String[] mazes = {Checks.PATH, Checks.ALL_OPEN};
        long[] digests = {Checks.with(Checks.PATH).digest(), Checks.with(Checks.ALL_OPEN).digest()};
        for (int n = 0; n < 41; n++) {
            for (int k = 0; k < 2; k++) Checks.due("type", both[k].type(0, mazes[k].charAt(n)), n + 1);
        }
        for (int call = 42; call <= CALLS; call++) {
            for (int k = 0; k < 2; k++) Checks.due("call " + call + " of " + k, both[k].digest(), digests[k]);
        }
    }

    public static void main(String[] args) {
        typeAndUndo();
        walkersOverAndOver();
        placesOverAndOver();
        eightPlacesOverAndOver();
        seenOverAndOver();
        sheetsOverAndOver();
        readAndWriteOverAndOver();
        mazesInTurn();
        for (int seed = 1; seed <= 20; seed++) manyQuestions(seed);
        twoInTurn();
        Checks.end();
    }
}
