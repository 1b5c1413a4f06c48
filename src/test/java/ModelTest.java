import java.util.ArrayList;
import java.util.List;
import java.util.Random;

/**
 * Runs of calls by a fixed seed, each answered by MazeCalendar and by Model, a second, slow telling of
 * the document that shares no code and no way of thinking with it. Each run makes all the 512 calls for
 * which an object is used.
 */
public final class ModelTest {
    private static final int RUNS = 500;
    private static final int CALLS = 512;

    // How often texts, places, count, digest, walks, ways, seen and sheets come, by the kind of run.
    private static final int[][] KINDS = {
        {1, 3, 1, 1, 6, 6, 6, 6}, {20, 3, 2, 2, 2, 2, 2, 1}, {1, 20, 2, 2, 6, 6, 4, 2}, {1, 4, 4, 0, 2, 1, 2, 30}};

    private static int wrong = 0;

    private final Random random;
    private final int run;
    private final MazeCalendar x = new MazeCalendar();
    private final Model model = new Model();
    private final List<String> told = new ArrayList<>();

    private ModelTest(int run) {
        this.run = run;
        random = new Random(9_000L + run);
    }

    private void same(String call, long got, long want) {
        told.add(call + " -> " + got);
        if (got == want) return;
        wrong++;
        if (wrong <= 5) {
            System.out.println("run " + run + ": " + call + " answered " + got + ", due is " + want);
            System.out.println("  maze " + model.texts[0] + " walkers " + model.texts[1]);
            System.out.println("  " + String.join("; ", told));
        }
    }

    /** A number that is mostly well, at times at an edge or far beyond it. */
    private int number(int least, int most) {
        int[] odd = {least - 1, most + 1, least - 2, Integer.MIN_VALUE, Integer.MAX_VALUE, -1, most, least};
        if (random.nextInt(25) == 0) return odd[random.nextInt(odd.length)];
        return most < least ? least : least + random.nextInt(most - least + 1);
    }

    private int day() { return number(0, random.nextInt(12) == 0 ? 35 : Math.max(0, model.days() - 1)); }
    private int step() { return random.nextInt(3) == 0 ? number(0, 99) : number(0, 20); }
    private int someWalker() { return number(0, model.walkers().length - 1); }

    private void type(int text, String s) {
        for (char c : s.toCharArray()) same("type(" + text + "," + (int) c + ")", x.type(text, c), model.type(text, c));
    }

    private String pick(String signs) { return "" + signs.charAt(random.nextInt(signs.length())); }

    private void newMaze() {
        if (!isRoomFor(45)) return;
        same("wipe(0)", x.wipe(0), model.wipe(0));
        int rows = 1 + random.nextInt(6), columns = 1 + random.nextInt(6);
        if (random.nextInt(4) == 0) { rows = 6; columns = 6; }
        String signs = new String[] {".rdb", "rrddb", "bbbr", "bbbbbbd.", "..rd", "b"}[random.nextInt(6)];
        StringBuilder t = new StringBuilder();
        for (int r = 0; r < rows; r++) {
            if (r > 0) t.append(';');
            for (int c = 0; c < columns; c++) t.append(pick(signs));
        }
        if (random.nextInt(8) == 0) t.append(pick(";.rdbx"));
        if (random.nextInt(8) == 0) t.setCharAt(random.nextInt(t.length()), pick(";.xb").charAt(0));
        type(0, t.toString());
        same("fault(0)", x.fault(0), model.fault(0));
    }

    private void newWalkers() {
        if (!isRoomFor(43)) return;
        same("wipe(1)", x.wipe(1), model.wipe(1));
        int n = 1 + random.nextInt(8);
        StringBuilder t = new StringBuilder();
        for (int w = 0; w < n; w++) {
            if (w > 0) t.append(';');
            int d = random.nextInt(10) == 0 ? random.nextInt(40) : random.nextInt(Math.max(1, model.days()));
            t.append(d / 10).append(d % 10).append(pick("nesw")).append(pick("lra"));
        }
        if (random.nextInt(8) == 0) t.append(pick(";0nx"));
        if (random.nextInt(8) == 0) t.setCharAt(random.nextInt(t.length()), pick(";04nlx").charAt(0));
        type(1, t.toString());
        same("fault(1)", x.fault(1), model.fault(1));
    }

    private void seeTruly() {
        if (model.days() == 0 || !isRoomFor(6)) return;
        same("forget()", x.forget(), model.forget());
        int d = random.nextInt(model.days()), way = random.nextInt(4), hand = random.nextInt(3);
        for (int k = random.nextInt(5); k >= 0; k--) {
            int n = random.nextInt(100);
            int at = model.walk(d, way, hand, n)[0];
            same("seen(" + n + "," + at + ")", x.seen(n, at), model.seen(n, at));
        }
    }

    /** The last bytes of a text are undone and others typed, so that it is mostly well again. */
    private void typeAnew(int text) {
        if (!isRoomFor(16)) return;
        String old = model.texts[text];
        int from = Math.max(0, old.length() - 1 - random.nextInt(8));
        for (int n = old.length(); n > from; n--) same("undo(" + text + ")", x.undo(text), model.undo(text));
        StringBuilder t = new StringBuilder();
        for (char c : old.substring(from).toCharArray()) {
            String like = ".rdb".indexOf(c) >= 0 && text == 0 ? ".rdb" : "nesw".indexOf(c) >= 0 ? "nesw" : "lra".indexOf(c) >= 0 ? "lra" : "" + c;
            t.append(pick(like));
        }
        type(text, t.toString());
    }

    private void textCall() {
        int text = number(0, 1), b = random.nextBoolean() ? pick(".rdb;0123nl").charAt(0) : number(0, 255);
        switch (random.nextInt(10)) {
            case 0: same("type(" + text + "," + b + ")", x.type(text, b), model.type(text, b)); break;
            case 1: case 2: same("undo(" + text + ")", x.undo(text), model.undo(text)); break;
            case 3: same("fault(" + text + ")", x.fault(text), model.fault(text)); break;
            case 4: newMaze(); break;
            case 5: newWalkers(); break;
            default: typeAnew(random.nextInt(2)); break;
        }
    }

    private void placeCall() {
        int n = step(), d = day(), side = number(0, 1), w = someWalker(), what = number(0, 2);
        String args = "(" + n + "," + d + "," + side + ")";
        switch (random.nextInt(8)) {
            case 0: case 1: same("hedge" + args, x.hedge(n, d, side), model.add(model.hedges, n, d, side)); break;
            case 2: case 3: same("gap" + args, x.gap(n, d, side), model.add(model.gaps, n, d, side)); break;
            case 4: case 5: case 6: same("back(" + side + ")", x.back(side), model.back(side)); break;
            default: same("walker(" + w + "," + what + ")", x.walker(w, what), model.walker(w, what)); break;
        }
    }

    private void walkCall() {
        int n = step(), d = day(), w = someWalker(), v = someWalker(), what = number(0, 1);
        switch (random.nextInt(6)) {
            case 0: same("open(" + n + "," + d + ")", x.open(n, d), model.open(n, d)); break;
            case 1: same("on(" + w + "," + n + "," + what + ")", x.on(w, n, what), model.on(w, n, what)); break;
            case 2: same("comes(" + w + "," + d + ")", x.comes(w, d), model.comes(w, d)); break;
            case 3: same("meet(" + w + "," + v + ")", x.meet(w, v), model.meet(w, v)); break;
            case 4: same("round(" + w + ")", x.round(w), model.round(w)); break;
            default: same("trod(" + n + "," + what + ")", x.trod(n, what), model.trod(n, what)); break;
        }
    }

    private void wayCall() {
        int n = step(), a = day(), b = day(), c = day(), i = number(-1, 1);
        String args = "(" + n + "," + a + "," + b + ")";
        switch (random.nextInt(6)) {
            case 0: same("way" + args, x.way(n, a, b), model.way(n, a, b)); break;
            case 1: same("through" + args + c, x.through(n, a, b, c), model.through(n, a, b, c)); break;
            case 2: same("joined(" + n + "," + a + ")", x.joined(n, a), model.joined(n, a)); break;
            case 3:
                if (random.nextBoolean()) b = a + new int[] {1, -1, model.width(), -model.width()}[random.nextInt(4)];
                same("hear(" + n + "," + a + "," + b + ")", x.hear(n, a, b), model.hear(n, a, b));
                break;
            case 4: same("cut" + args, x.cut(n, a, b), model.cut(n, a, b)); break;
            default: same("guard" + args + i, x.guard(n, a, b, i), model.guard(n, a, b, i)); break;
        }
    }

    private void seenCall() {
        int n = step(), d = day(), to = day(), hand = number(0, 2), what = number(0, 1), few = number(0, 8);
        int i = random.nextBoolean() ? number(-1, 3) : number(-1, 143), many = number(1, 99);
        int seed = random.nextBoolean() ? random.nextInt() : number(0, 9);
        switch (random.nextInt(8)) {
            case 0: same("seen(" + n + "," + d + ")", x.seen(n, d), model.seen(n, d)); break;
            case 1: if (random.nextInt(4) == 0) same("forget()", x.forget(), model.forget()); else seeTruly(); break;
            case 2: same("began(" + hand + "," + i + ")", x.began(hand, i), model.began(hand, i)); break;
            case 3: case 4: same("look(" + hand + "," + n + ")", x.look(hand, n), model.look(hand, n)); break;
            case 5: case 6:
                same("stray(" + n + "," + d + "," + few + "," + to + "," + what + ")",
                    x.stray(n, d, few, to, what), model.stray(n, d, few, to, what));
                break;
            default:
                same("child(" + seed + "," + d + "," + many + "," + what + ")",
                    x.child(seed, d, many, what), model.child(seed, d, many, what));
                break;
        }
    }

    private void sheetCall() {
        int s = number(0, 3), t = number(0, 3), form = number(0, 2), i = number(0, 12), j = number(0, 12);
        int n = number(0, 10), v = random.nextBoolean() ? random.nextInt() : random.nextInt(300) - 100, w = someWalker();
        int size = random.nextInt(3) == 0 ? number(0, 60) : number(5, 25);
        if (random.nextBoolean()) form = 2;
        switch (random.nextInt(9)) {
            case 0: same("sheet(" + s + "," + form + "," + size + ")", x.sheet(s, form, size), model.sheet(s, form, size)); break;
            case 1: if (random.nextInt(3) == 0) same("lose(" + s + ")", x.lose(s), model.lose(s)); break;
            case 2: case 3: same("put(" + s + "," + form + "," + i + "," + v + ")", x.put(s, form, i, v), model.put(s, form, i, v)); break;
            case 4: case 5: same("get(" + s + "," + form + "," + i + ")", x.get(s, form, i), model.get(s, form, i)); break;
            case 6:
                same("copy(" + s + "," + i + "," + t + "," + j + "," + n + ")", x.copy(s, i, t, j, n), model.copy(s, i, t, j, n));
                break;
            case 7: same("write(" + w + "," + s + ")", x.write(w, s), model.write(w, s)); break;
            default: fillAndRead(s, form); break;
        }
    }

    private void fillAndRead(int s, int form) {
        if (!isRoomFor(17)) return;
        int size = random.nextInt(16);
        same("sheet(" + s + "," + form + "," + size + ")", x.sheet(s, form, size), model.sheet(s, form, size));
        for (int i = 0; i < size; i++) {
            int v = i % 3 == 0 ? step() : i % 3 == 1 ? day() : number(0, 1);
            same("put(" + s + "," + form + "," + i + "," + v + ")", x.put(s, form, i, v), model.put(s, form, i, v));
        }
        same("read(" + s + ")", x.read(s), model.read(s));
    }

    /** Whether so many calls can come, and one more behind them. */
    private boolean isRoomFor(int calls) { return told.size() + calls < CALLS; }

    private int pickKind(int[] often) {
        int sum = 0;
        for (int n : often) sum += n;
        int lot = random.nextInt(sum);
        for (int k = 0; k < often.length; k++) {
            lot -= often[k];
            if (lot < 0) return k;
        }
        return 0;
    }

    private void go() {
        int[] often = KINDS[run % KINDS.length];
        newMaze();
        newWalkers();
        while (isRoomFor(1)) {
            switch (pickKind(often)) {
                case 0: textCall(); break;
                case 1: placeCall(); break;
                case 2: {
                    int what = number(0, 8);
                    same("count(" + what + ")", x.count(what), model.count(what));
                    break;
                }
                case 3: if (random.nextInt(4) == 0) same("digest()", x.digest(), model.digest()); break;
                case 4: walkCall(); break;
                case 5: wayCall(); break;
                case 6: seenCall(); break;
                default: sheetCall(); break;
            }
        }
        same("digest()", x.digest(), model.digest());
        if (told.size() != CALLS) {
            wrong++;
            System.out.println("run " + run + " made " + told.size() + " calls, not " + CALLS);
        }
    }

    public static void main(String[] args) {
        int runs = args.length > 0 ? Integer.parseInt(args[0]) : RUNS;
        for (int run = 0; run < runs; run++) new ModelTest(run).go();
        System.out.println(wrong == 0 ? "the model agrees" : wrong + " answers are not the model's");
        if (wrong != 0) System.exit(1);
    }
}
