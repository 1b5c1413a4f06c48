import java.util.ArrayList;
import java.util.List;
import java.util.function.Supplier;
import java.util.function.ToLongFunction;

/**
 * "Refusals, the first that fits; they change nothing (FINDINGS but count() 8)". Of two objects made
 * alike one gets a call that is refused; then both are asked, and taken apart, and must tell the same.
 */
public final class RefusalsTest {
    private static final int NONE = Checks.NONE, BAD = Checks.BAD, NOT = Checks.NOT, FULL = Checks.FULL;
    private static final int LEAST = Checks.LEAST, MOST = Checks.MOST;

    private static int refused = 0;

    // ---- three states

    /** As much of everything as there may be, but for a lost sheet; 5 is the latest finding. */
    private static MazeCalendar fullOne() {
        MazeCalendar x = Checks.with(Checks.PATH, Checks.EIGHT);
        for (int n = 0; n < 8; n++) {
            x.hedge(10 * n, 4 * n, 0);
            x.gap(11 * n, 3 * n + 1, 1);
        }
        for (int n = 0; n < 8; n++) x.seen(0, 0);
        for (int s = 0; s < 3; s++) {
            x.sheet(s, s, 5);
            for (int i = 0; i < 5; i++) x.put(s, s, i, 10 * s + i - 3);
        }
        x.sheet(0, 0, -1);
        return x;
    }

    /** Some of each, so that nothing is full; 4 is the latest finding. */
    private static MazeCalendar someOne() {
        MazeCalendar x = Checks.with("bd.;r.d;.r.", "00el;09nl");
        x.hedge(3, 0, 0);
        x.gap(2, 2, 1);
        x.seen(1, 3);
        x.sheet(0, 0, 5);
        x.sheet(1, 1, 5);
        x.sheet(2, 2, 5);
        x.put(2, 2, 4, 77);
        x.copy(0, 0, 1, 0, 1);
        return x;
    }

    /** Both texts have a fault; 1 is the latest finding. */
    private static MazeCalendar faultyOne() {
        MazeCalendar x = Checks.with("rr;r", "00el;0");
        x.hedge(3, 0, 0);
        x.lose(3);
        return x;
    }

    // ---- what an object is

    private static void add(List<Long> all, long... values) {
        for (long v : values) all.add(v);
    }

    /** All that can be told of an object, its latest finding first; nothing is left of it then. */
    private static List<Long> takeApart(MazeCalendar x) {
        List<Long> all = new ArrayList<>();
        add(all, x.count(8), x.digest());
        for (int s = 0; s < 3; s++) {
            for (int i = 0; i < 6; i++) add(all, x.get(s, s, i));
        }
        for (int s = 0; s < 4; s++) add(all, x.lose(s));
        for (int what = 0; what < 2; what++) add(all, x.trod(99, what), x.child(5, 0, 99, what));
        for (int what = 1; what >= 0; what--) {
            for (int n = 0; n < 9; n++) add(all, x.back(what), x.digest());
        }
        add(all, x.forget(), x.digest());
        for (int n = 0; n < 42; n++) add(all, x.undo(0), x.fault(0));
        for (int n = 0; n < 40; n++) add(all, x.undo(1), x.fault(1));
        return all;
    }

    private static void refuse(String call, Supplier<MazeCalendar> state, ToLongFunction<MazeCalendar> made, long want) {
        MazeCalendar x = state.get();
        Checks.due(call, made.applyAsLong(x), want);
        List<Long> got = takeApart(x);
        List<Long> due = takeApart(state.get());
        boolean finding = want <= -11 && want >= -15;
        Checks.due(call + ", the latest finding", got.get(0), finding ? -10 - want : due.get(0));
        for (int k = 1; k < due.size(); k++) {
            if (!got.get(k).equals(due.get(k))) Checks.due(call + ", what is told then, " + k, got.get(k), due.get(k));
        }
        refused++;
    }

    // ---- the refusals of all calls

    private static void full(String call, ToLongFunction<MazeCalendar> made, long want) {
        refuse(call + " of the full one", RefusalsTest::fullOne, made, want);
    }

    private static void some(String call, ToLongFunction<MazeCalendar> made, long want) {
        refuse(call + " of the one with some", RefusalsTest::someOne, made, want);
    }

    /** Refused in all three states, and by a new object. */
    private static void all(String call, ToLongFunction<MazeCalendar> made, long want) {
        full(call, made, want);
        some(call, made, want);
        refuse(call + " of the faulty one", RefusalsTest::faultyOne, made, want);
        refuse(call + " of a new one", MazeCalendar::new, made, want);
    }

    private static void faulty(String call, ToLongFunction<MazeCalendar> made, long want) {
        refuse(call + " of the faulty one", RefusalsTest::faultyOne, made, want);
        refuse(call + " of a new one", MazeCalendar::new, made, want);
    }

    private static void texts() {
        Checks.sentence("refused: type, wipe, undo, fault, walker");
        for (int text : new int[] {-1, 2, LEAST, MOST}) {
            all("type " + text, x -> x.type(text, '.'), BAD);
            all("wipe " + text, x -> x.wipe(text), BAD);
            all("undo " + text, x -> x.undo(text), BAD);
            all("fault " + text, x -> x.fault(text), BAD);
        }
        for (int text = 0; text < 2; text++) {
            int t = text;
            for (int b : new int[] {-1, 256, LEAST, MOST}) all("type of " + b, x -> x.type(t, b), BAD);
            full("type", x -> x.type(t, '.'), FULL);
            refuse("undo of a new one", MazeCalendar::new, x -> x.undo(t), NOT);
        }
        for (int w : new int[] {-1, 8, LEAST, MOST}) all("walker " + w, x -> x.walker(w, 0), BAD);
        for (int what : new int[] {-1, 3, LEAST, MOST}) all("walker by " + what, x -> x.walker(0, what), BAD);
        some("walker 2", x -> x.walker(2, 0), BAD);
        faulty("walker 0", x -> x.walker(0, 0), BAD);
    }

    private static void places() {
        Checks.sentence("refused: hedge, gap, back, read");
        for (int step : new int[] {-1, 100, LEAST, MOST}) {
            all("hedge from " + step, x -> x.hedge(step, 0, 0), BAD);
            all("gap from " + step, x -> x.gap(step, 0, 0), BAD);
        }
        for (int day : new int[] {-1, 36, LEAST, MOST}) {
            all("hedge of " + day, x -> x.hedge(0, day, 0), BAD);
            all("gap of " + day, x -> x.gap(0, day, 0), BAD);
        }
        for (int side : new int[] {-1, 2, LEAST, MOST}) {
            all("hedge by " + side, x -> x.hedge(0, 0, side), BAD);
            all("gap by " + side, x -> x.gap(0, 0, side), BAD);
            all("back of " + side, x -> x.back(side), BAD);
        }
        full("hedge", x -> x.hedge(0, 0, 0), FULL);
        full("gap", x -> x.gap(0, 0, 0), FULL);
        refuse("back of a new one, 0", MazeCalendar::new, x -> x.back(0), NOT);
        refuse("back of a new one, 1", MazeCalendar::new, x -> x.back(1), NOT);
        refuse("back of no gap", RefusalsTest::faultyOne, x -> x.back(1), NOT);
        for (int s : new int[] {-1, 4, LEAST, MOST}) all("read " + s, x -> x.read(s), BAD);
        all("read of a lost one", x -> x.read(3), Checks.NULL);
        full("read when full", x -> x.read(2), 0);
    }

    private static void walks() {
        Checks.sentence("refused: open, on, comes, meet, round, trod");
        for (int n : new int[] {-1, 100, LEAST, MOST}) {
            all("open in " + n, x -> x.open(n, 0), BAD);
            all("on behind " + n, x -> x.on(0, n, 0), BAD);
            all("trod up to " + n, x -> x.trod(n, 0), BAD);
        }
        for (int d : new int[] {-1, 36, LEAST, MOST}) {
            all("open of " + d, x -> x.open(0, d), BAD);
            all("comes to " + d, x -> x.comes(0, d), BAD);
        }
        for (int what : new int[] {-1, 2, LEAST, MOST}) {
            all("on by " + what, x -> x.on(0, 0, what), BAD);
            all("trod by " + what, x -> x.trod(0, what), BAD);
        }
        for (int w : new int[] {-1, 8, LEAST, MOST}) {
            all("on of " + w, x -> x.on(w, 0, 0), BAD);
            all("comes of " + w, x -> x.comes(w, 0), BAD);
            all("meet of 0 and " + w, x -> x.meet(0, w), BAD);
            all("meet of " + w + " and 0", x -> x.meet(w, 0), BAD);
            all("round of " + w, x -> x.round(w), BAD);
        }
        all("meet of one twice", x -> x.meet(1, 1), BAD);
        some("open of day 9", x -> x.open(0, 9), BAD);
        some("comes to day 9", x -> x.comes(0, 9), BAD);
        some("on of walker 2", x -> x.on(2, 0, 0), BAD);
        some("meet of walker 2", x -> x.meet(0, 2), BAD);
        some("round of walker 2", x -> x.round(2), BAD);
        faulty("open of day 0", x -> x.open(0, 0), BAD);
        faulty("round of walker 0", x -> x.round(0), BAD);
    }

    private static void ways() {
        Checks.sentence("refused: way, through, joined, hear, cut, guard");
        for (int n : new int[] {-1, 100, LEAST, MOST}) {
            all("way in " + n, x -> x.way(n, 0, 1), BAD);
            all("through in " + n, x -> x.through(n, 0, 1, 2), BAD);
            all("joined in " + n, x -> x.joined(n, 0), BAD);
            all("hear in " + n, x -> x.hear(n, 0, 1), BAD);
            all("cut in " + n, x -> x.cut(n, 0, 1), BAD);
            all("guard in " + n, x -> x.guard(n, 0, 8, NONE), BAD);
        }
        for (int d : new int[] {-1, 36, LEAST, MOST}) daysOfWays(d);
        for (int i : new int[] {-2, 2, LEAST, MOST}) all("guard " + i, x -> x.guard(0, 0, 8, i), BAD);
        all("guard of one day twice", x -> x.guard(0, 0, 0, NONE), BAD);
        some("way to day 9", x -> x.way(0, 0, 9), BAD);
        some("through day 9", x -> x.through(0, 0, 9, 0), BAD);
        some("joined to day 9", x -> x.joined(0, 9), BAD);
        some("hear of day 9", x -> x.hear(0, 8, 9), BAD);
        some("cut to day 9", x -> x.cut(0, 0, 9), BAD);
        some("guard of day 9", x -> x.guard(0, 0, 9, NONE), BAD);
        faulty("way of day 0", x -> x.way(0, 0, 0), BAD);
    }

    private static void daysOfWays(int d) {
        all("way from " + d, x -> x.way(0, d, 0), BAD);
        all("way to " + d, x -> x.way(0, 0, d), BAD);
        all("through from " + d, x -> x.through(0, d, 0, 0), BAD);
        all("through by " + d, x -> x.through(0, 0, d, 0), BAD);
        all("through to " + d, x -> x.through(0, 0, 0, d), BAD);
        all("joined to " + d, x -> x.joined(0, d), BAD);
        all("hear of " + d, x -> x.hear(0, d, 0), BAD);
        all("hear by " + d, x -> x.hear(0, 0, d), BAD);
        all("cut from " + d, x -> x.cut(0, d, 0), BAD);
        all("cut to " + d, x -> x.cut(0, 0, d), BAD);
        all("guard from " + d, x -> x.guard(0, d, 0, NONE), BAD);
        all("guard to " + d, x -> x.guard(0, 0, d, NONE), BAD);
    }

    private static void seenAndChance() {
        Checks.sentence("refused: seen, began, look, stray, child (a refusal -x of a long is the least long and x more)");
        for (int n : new int[] {-1, 100, LEAST, MOST}) {
            all("seen behind " + n, x -> x.seen(n, 0), BAD);
            all("look behind " + n, x -> x.look(0, n), BAD);
            all("stray in " + n, x -> x.stray(n, 0, 0, 0, 0), Checks.BAD_LONG);
            all("child of " + n + " steps", x -> x.child(0, 0, n, 0), BAD);
        }
        for (int d : new int[] {-1, 36, LEAST, MOST}) {
            all("seen on " + d, x -> x.seen(0, d), BAD);
            all("stray from " + d, x -> x.stray(0, d, 0, 0, 0), Checks.BAD_LONG);
            all("stray to " + d, x -> x.stray(0, 0, 0, d, 0), Checks.BAD_LONG);
            all("child on " + d, x -> x.child(0, d, 1, 0), BAD);
        }
        full("seen", x -> x.seen(0, 0), FULL);
        for (int hand : new int[] {-1, 3, LEAST, MOST}) {
            all("began by " + hand, x -> x.began(hand, NONE), BAD);
            all("look by " + hand, x -> x.look(hand, 0), BAD);
        }
        for (int i : new int[] {-2, 144, LEAST, MOST}) all("began " + i, x -> x.began(0, i), BAD);
        for (int n : new int[] {-1, 9, LEAST, MOST}) all("stray of " + n, x -> x.stray(0, 0, n, 0, 0), Checks.BAD_LONG);
        all("child of no steps", x -> x.child(0, 0, 0, 0), BAD);
        for (int what : new int[] {-1, 2, LEAST, MOST}) {
            all("stray by " + what, x -> x.stray(0, 0, 0, 0, what), Checks.BAD_LONG);
            all("child by " + what, x -> x.child(0, 0, 1, what), BAD);
        }
        some("stray to day 9", x -> x.stray(0, 0, 0, 9, 0), Checks.BAD_LONG);
        some("child on day 9", x -> x.child(0, 9, 1, 0), BAD);
    }

    private static void sheets() {
        Checks.sentence("refused: sheet, lose, put, get, write, count");
        for (int s : new int[] {-1, 4, LEAST, MOST}) {
            all("sheet " + s, x -> x.sheet(s, 0, 1), BAD);
            all("sheet " + s + " of -1", x -> x.sheet(s, 0, -1), BAD);
            all("lose " + s, x -> x.lose(s), BAD);
            all("put in " + s, x -> x.put(s, 0, 0, 1), BAD);
            all("get of " + s, x -> x.get(s, 0, 0), LEAST);
            all("write to " + s, x -> x.write(0, s), BAD);
        }
        for (int form : new int[] {-1, 3, LEAST, MOST}) {
            all("sheet of form " + form, x -> x.sheet(0, form, 1), BAD);
            all("sheet of form " + form + " of -1", x -> x.sheet(0, form, -1), BAD);
            all("put of form " + form, x -> x.put(0, form, 0, 1), BAD);
            all("put of form " + form + " in a lost one", x -> x.put(3, form, -1, 1), BAD);
            all("get of form " + form, x -> x.get(0, form, 0), LEAST);
        }
        for (int n : new int[] {61, MOST}) all("sheet of " + n, x -> x.sheet(0, 0, n), BAD);
        for (int n : new int[] {-1, LEAST}) all("sheet of " + n, x -> x.sheet(0, 0, n), Checks.SIZE);
        all("lose of a lost one", x -> x.lose(3), Checks.NULL);
        all("put in a lost one", x -> x.put(3, 0, -1, 1), Checks.NULL);
        for (int i : new int[] {-1, 5, LEAST, MOST}) {
            full("put at " + i, x -> x.put(1, 1, i, 1), Checks.INDEX);
            full("put as another at " + i, x -> x.put(1, 2, i, 1), Checks.CAST);
        }
        full("write to a lost one", x -> x.write(0, 3), Checks.NULL);
        some("write to a lost one of one nowhere", x -> x.write(1, 3), Checks.NULL);
        for (int w : new int[] {-1, 8, LEAST, MOST}) {
            all("write of " + w, x -> x.write(w, 0), BAD);
            all("write of " + w + " to a lost one", x -> x.write(w, 3), BAD);
        }
        for (int what : new int[] {-1, 9, LEAST, MOST}) all("count " + what, x -> x.count(what), BAD);
    }

    private static void copies() {
        Checks.sentence("refused: copy");
        for (int s : new int[] {-1, 4, LEAST, MOST}) {
            all("copy of " + s, x -> x.copy(s, 0, 3, 0, -1), BAD);
            all("copy to " + s, x -> x.copy(3, 0, s, 0, -1), BAD);
        }
        all("copy of a lost one", x -> x.copy(3, 0, 0, 0, -1), Checks.NULL);
        all("copy to a lost one", x -> x.copy(0, 0, 3, 0, -1), Checks.NULL);
        full("copy of another form", x -> x.copy(0, 0, 1, 0, 1), Checks.STORE);
        full("copy of another form, n -1", x -> x.copy(0, -1, 1, 0, -1), Checks.STORE);
        int[][] wrong = {{-1, 0, 1}, {0, -1, 1}, {0, 0, -1}, {0, 1, 5}, {1, 0, 5}, {0, 0, 6}, {3, 0, MOST}, {MOST, 0, 1}};
        for (int[] w : wrong) full("copy of " + w[0] + " " + w[1] + " " + w[2], x -> x.copy(2, w[0], 2, w[1], w[2]), Checks.INDEX);
    }

    private static void findingOfGet() {
        Checks.sentence("get: FINDINGS change nothing but count() 8");
        Object[][] gets = {{3, 0, 0, 1}, {3, 1, -1, 1}, {0, 1, 0, 3}, {0, 2, 5, 3}, {0, 0, 5, 2}, {2, 2, -1, 2}};
        for (Object[] g : gets) {
            MazeCalendar x = fullOne();
            Checks.due("get", x.get((int) g[0], (int) g[1], (int) g[2]), LEAST);
            List<Long> got = takeApart(x);
            List<Long> due = takeApart(fullOne());
            Checks.due("its finding", got.get(0), (int) g[3]);
            Checks.due("nothing else", got.subList(1, got.size()).equals(due.subList(1, due.size())) ? 1 : 0, 1);
        }
    }

    public static void main(String[] args) {
        texts();
        places();
        walks();
        ways();
        seenAndChance();
        sheets();
        copies();
        findingOfGet();
        System.out.println(refused + " refusals change nothing");
        Checks.end();
    }
}
