import java.math.BigInteger;
import java.util.ArrayDeque;
import java.util.ArrayList;
import java.util.Arrays;
import java.util.HashMap;
import java.util.List;
import java.util.Map;
import java.util.TreeSet;
import java.util.regex.Pattern;

/** The document, told as plainly as the Java library lets it be told. */
final class Model {
    final String[] texts = {"", ""};
    final List<int[]> hedges = new ArrayList<>();
    final List<int[]> gaps = new ArrayList<>();
    final List<int[]> sightings = new ArrayList<>();
    final Object[] sheets = new Object[4];
    int finding = 0;

    // What follows from the texts, HEDGES and GAPS; told anew only when they have changed.
    private String[] rowsNow;
    private String[] walkersNow;
    private boolean[][][] openNow;

    void changed() {
        rowsNow = null;
        walkersNow = null;
        openNow = null;
    }

    // ---- texts

    static boolean mazeMayGoOn(String t) {
        String[] rows = t.split(";", -1);
        if (rows.length > 7 || (rows.length == 7 && !rows[6].isEmpty())) return false;
        for (int r = 0; r < rows.length; r++) {
            if (!Pattern.matches("[.rdb]{0,6}", rows[r])) return false;
            boolean last = r == rows.length - 1;
            if (r == 0 && !last && rows[0].isEmpty()) return false;
            if (r > 0 && rows[r].length() > rows[0].length()) return false;
            if (r > 0 && !last && rows[r].length() != rows[0].length()) return false;
        }
        return true;
    }

    static boolean mazeIsWell(String t) {
        if (t.isEmpty()) return true;
        String[] rows = t.split(";", -1);
        if (rows.length > 6 || !Pattern.matches("[.rdb]{1,6}", rows[0])) return false;
        for (String row : rows) {
            if (!Pattern.matches("[.rdb]{" + rows[0].length() + "}", row)) return false;
        }
        return true;
    }

    static boolean walkersMayGoOn(String t) {
        String[] w = t.split(";", -1);
        for (int i = 0; i < w.length; i++) {
            boolean whole = Pattern.matches("[0-3][0-9][nesw][lra]", w[i]);
            boolean part = Pattern.matches("([0-3]([0-9]([nesw][lra]?)?)?)?", w[i]);
            if (i < w.length - 1 ? !whole : !part) return false;
        }
        return w.length <= 8 || (w.length == 9 && w[8].isEmpty());
    }

    static boolean walkersAreWell(String t) {
        return t.isEmpty() || Pattern.matches("[0-3][0-9][nesw][lra](;[0-3][0-9][nesw][lra]){0,7}", t);
    }

    int faultOf(int text) {
        String t = texts[text];
        if (text == 0 ? mazeIsWell(t) : walkersAreWell(t)) return -1;
        for (int n = 1; n <= t.length(); n++) {
            String part = t.substring(0, n);
            if (!(text == 0 ? mazeMayGoOn(part) : walkersMayGoOn(part))) return n - 1;
        }
        return t.length();
    }

    String[] rows() {
        if (rowsNow == null) {
            rowsNow = texts[0].isEmpty() || faultOf(0) != -1 ? new String[0] : texts[0].split(";");
        }
        return rowsNow;
    }

    String[] walkers() {
        if (walkersNow == null) {
            walkersNow = texts[1].isEmpty() || faultOf(1) != -1 ? new String[0] : texts[1].split(";");
        }
        return walkersNow;
    }

    int width() { return rows().length == 0 ? 0 : rows()[0].length(); }
    int days() { return rows().length * width(); }
    boolean isDay(int d) { return d >= 0 && d < days(); }
    boolean isStep(int s) { return s >= 0 && s <= 99; }
    boolean isWalker(int w) { return w >= 0 && w < walkers().length; }

    int type(int text, int b) {
        if (text < 0 || text > 1 || b < 0 || b > 255) return -2;
        if (texts[text].length() == (text == 0 ? 41 : 39)) return -4;
        texts[text] += (char) b;
        changed();
        return texts[text].length();
    }

    int wipe(int text) {
        if (text < 0 || text > 1) return -2;
        int n = texts[text].length();
        texts[text] = "";
        changed();
        return n;
    }

    int undo(int text) {
        if (text < 0 || text > 1) return -2;
        if (texts[text].isEmpty()) return -3;
        texts[text] = texts[text].substring(0, texts[text].length() - 1);
        changed();
        return texts[text].length();
    }

    int fault(int text) { return text < 0 || text > 1 ? -2 : faultOf(text); }

    int walker(int w, int what) {
        if (!isWalker(w) || what < 0 || what > 2) return -2;
        String t = walkers()[w];
        if (what == 0) return Integer.parseInt(t.substring(0, 2));
        return what == 1 ? "nesw".indexOf(t.charAt(2)) : "lra".indexOf(t.charAt(3));
    }

    int add(List<int[]> list, int step, int day, int side) {
        if (!isStep(step) || day < 0 || day > 35 || side < 0 || side > 1) return -2;
        if (list.size() == 8) return -4;
        list.add(new int[] {step, day, side});
        changed();
        return list.size();
    }

    int back(int what) {
        if (what < 0 || what > 1) return -2;
        List<int[]> list = what == 0 ? hedges : gaps;
        if (list.isEmpty()) return -3;
        list.remove(list.size() - 1);
        changed();
        return list.size();
    }

    int read(int s) {
        if (s < 0 || s > 3) return -2;
        if (sheets[s] == null) return found(1);
        int n = 0;
        int size = java.lang.reflect.Array.getLength(sheets[s]);
        while (3 * n + 3 <= size) {
            int step = java.lang.reflect.Array.getInt(sheets[s], 3 * n);
            int day = java.lang.reflect.Array.getInt(sheets[s], 3 * n + 1);
            int side = java.lang.reflect.Array.getInt(sheets[s], 3 * n + 2);
            if (add(gaps, step, day, side) < 0) return n;
            n++;
        }
        return n;
    }

    // ---- what is open

    /** Whether there is a DAY that way, hedge or no hedge. */
    boolean near(int day, int way) {
        int row = day / width(), col = day % width();
        switch (way) {
            case 0: return row > 0;
            case 1: return col < width() - 1;
            case 2: return row < rows().length - 1;
            default: return col > 0;
        }
    }

    int go(int day, int way) {
        return day + (way == 0 ? -width() : way == 1 ? 1 : way == 2 ? width() : -1);
    }

    boolean tellOpen(int step, int day, int way) {
        if (!near(day, way)) return false;
        if (way == 0 || way == 3) return tellOpen(step, go(day, way), (way + 2) % 4);
        int side = way == 1 ? 0 : 1;
        char c = rows()[day / width()].charAt(day % width());
        int hedge = -1, gap = -1;
        for (int[] h : hedges) if (h[0] <= step && h[1] == day && h[2] == side) hedge = Math.max(hedge, h[0]);
        for (int[] g : gaps) if (g[0] <= step && g[1] == day && g[2] == side) gap = Math.max(gap, g[0]);
        if (hedge == -1 && gap == -1) return c == 'b' || c == (side == 0 ? 'r' : 'd');
        return gap >= hedge;
    }

    boolean isOpen(int step, int day, int way) {
        if (openNow == null) {
            openNow = new boolean[100][days()][4];
            for (int s = 0; s < 100; s++) {
                for (int d = 0; d < days(); d++) {
                    for (int w = 0; w < 4; w++) openNow[s][d][w] = tellOpen(s, d, w);
                }
            }
        }
        return openNow[step][day][way];
    }

    int open(int step, int day) {
        if (!isStep(step) || !isDay(day)) return -2;
        int bits = 0;
        for (int way = 0; way < 4; way++) if (isOpen(step, day, way)) bits += 1 << way;
        return bits;
    }

    // ---- walks

    int[] goOn(int day, int heading, int hand, int step) {
        String order = hand == 0 ? "lsrb" : hand == 1 ? "rslb" : "slrb";
        for (char c : order.toCharArray()) {
            int way = (heading + (c == 's' ? 0 : c == 'r' ? 1 : c == 'b' ? 2 : 3)) % 4;
            if (isOpen(step, day, way)) return new int[] {go(day, way), way};
        }
        return new int[] {day, heading};
    }

    int[] walk(int day, int heading, int hand, int steps) {
        if (!isDay(day)) return null;
        int[] at = {day, heading};
        for (int step = 0; step < steps; step++) at = goOn(at[0], at[1], hand, Math.min(step, 99));
        return at;
    }

    int[] walkOf(int w, int steps) { return walk(walker(w, 0), walker(w, 1), walker(w, 2), steps); }

    int on(int w, int steps, int what) {
        if (!isWalker(w) || !isStep(steps) || what < 0 || what > 1) return -2;
        int[] at = walkOf(w, steps);
        return at == null ? -1 : at[what];
    }

    int comes(int w, int day) {
        if (!isWalker(w) || !isDay(day)) return -2;
        for (int n = 0; n <= 99; n++) if (on(w, n, 0) == day) return n;
        return -1;
    }

    int meet(int a, int b) {
        if (!isWalker(a) || !isWalker(b) || a == b) return -2;
        for (int n = 0; n <= 99; n++) if (on(a, n, 0) != -1 && on(a, n, 0) == on(b, n, 0)) return n;
        return -1;
    }

    int round(int w) {
        if (!isWalker(w)) return -2;
        int[] at = walkOf(w, 99);
        if (at == null) return -1;
        Map<Integer, Integer> first = new HashMap<>();
        for (int n = 99; ; n++) {
            Integer before = first.put(4 * at[0] + at[1], n);
            if (before != null) return n - before;
            at = goOn(at[0], at[1], walker(w, 2), 99);
        }
    }

    int trod(int steps, int what) {
        if (!isStep(steps) || what < 0 || what > 1) return -2;
        TreeSet<Integer> set = new TreeSet<>();
        for (int w = 0; w < walkers().length; w++) {
            for (int n = 0; n <= steps; n++) set.add(on(w, n, 0));
        }
        int bits = 0;
        for (int d : set) if (d >= 18 * what && d < 18 * what + 18) bits += 1 << (d - 18 * what);
        return bits;
    }

    // ---- ways

    int[] far(int step, int from, boolean[] barred, boolean gapsCost) {
        int[] far = new int[days()];
        Arrays.fill(far, -1);
        ArrayDeque<Integer> next = new ArrayDeque<>();
        far[from] = 0;
        next.add(from);
        while (!next.isEmpty()) {
            int d = next.poll();
            for (int way = 0; way < 4; way++) {
                if (!near(d, way) || barred[go(d, way)]) continue;
                boolean open = isOpen(step, d, way);
                if (!open && !gapsCost) continue;
                int cost = far[d] + (gapsCost ? (open ? 0 : 1) : 1);
                if (far[go(d, way)] == -1 || cost < far[go(d, way)]) {
                    far[go(d, way)] = cost;
                    next.add(go(d, way));
                }
            }
        }
        return far;
    }

    int[] far(int step, int from) { return far(step, from, new boolean[days()], false); }

    int way(int step, int from, int to) {
        return !isStep(step) || !isDay(from) || !isDay(to) ? -2 : far(step, from)[to];
    }

    int through(int step, int from, int by, int to) {
        if (!isStep(step) || !isDay(from) || !isDay(by) || !isDay(to)) return -2;
        int a = far(step, by)[from], b = far(step, by)[to];
        return a < 0 || b < 0 ? -1 : a + b;
    }

    int joined(int step, int day) {
        if (!isStep(step) || !isDay(day)) return -2;
        int n = 0;
        for (int f : far(step, day)) if (f >= 0) n++;
        return n;
    }

    int hear(int step, int a, int b) {
        if (!isStep(step) || !isDay(a) || !isDay(b)) return -2;
        for (int way = 0; way < 4; way++) {
            if (near(a, way) && go(a, way) == b) return isOpen(step, a, way) ? 0 : 1;
        }
        return 0;
    }

    int cut(int step, int from, int to) {
        if (!isStep(step) || !isDay(from) || !isDay(to)) return -2;
        int n = far(step, from, new boolean[days()], true)[to];
        return n > 3 ? -1 : n;
    }

    boolean parts(int step, int from, int to, int... guards) {
        boolean[] barred = new boolean[days()];
        for (int g : guards) {
            if (g == from || g == to) return false;
            barred[g] = true;
        }
        return far(step, from, barred, false)[to] == -1;
    }

    int[] guards(int step, int from, int to) {
        if (parts(step, from, to)) return new int[0];
        for (int a = 0; a < days(); a++) if (parts(step, from, to, a)) return new int[] {a};
        for (int a = 0; a < days(); a++) {
            for (int b = a + 1; b < days(); b++) if (parts(step, from, to, a, b)) return new int[] {a, b};
        }
        return null;
    }

    int guard(int step, int from, int to, int i) {
        if (!isStep(step) || !isDay(from) || !isDay(to) || from == to || i < -1 || i > 1) return -2;
        int[] g = guards(step, from, to);
        if (g == null) return -1;
        if (i == -1) return g.length;
        return i < g.length ? g[i] : -1;
    }

    // ---- seen, chance

    int seen(int steps, int day) {
        if (!isStep(steps) || day < 0 || day > 35) return -2;
        if (sightings.size() == 8) return -4;
        sightings.add(new int[] {steps, day});
        return sightings.size();
    }

    int forget() {
        int n = sightings.size();
        sightings.clear();
        return n;
    }

    List<Integer> starts(int hand) {
        List<Integer> starts = new ArrayList<>();
        for (int day = 0; day < days(); day++) {
            for (int way = 0; way < 4; way++) {
                boolean fits = true;
                for (int[] s : sightings) fits = fits && walk(day, way, hand, s[0])[0] == s[1];
                if (fits) starts.add(4 * day + way);
            }
        }
        return starts;
    }

    int began(int hand, int i) {
        if (hand < 0 || hand > 2 || i < -1 || i > 143) return -2;
        List<Integer> starts = starts(hand);
        if (i == -1) return starts.size();
        return i < starts.size() ? starts.get(i) : -1;
    }

    int look(int hand, int steps) {
        if (hand < 0 || hand > 2 || !isStep(steps)) return -2;
        int best = -1, most = 0;
        int[] crowd = new int[36];
        for (int start : starts(hand)) crowd[walk(start / 4, start % 4, hand, steps)[0]]++;
        for (int d = 35; d >= 0; d--) if (crowd[d] > 0 && crowd[d] >= most) { best = d; most = crowd[d]; }
        return best;
    }

    BigInteger[] chance(int step, int from, int steps, int to, Map<Integer, BigInteger[]> known) {
        if (steps == 0) return new BigInteger[] {from == to ? BigInteger.ONE : BigInteger.ZERO, BigInteger.ONE};
        BigInteger[] before = known.get(100 * steps + from);
        if (before != null) return before;
        BigInteger above = BigInteger.ZERO, below = BigInteger.ONE;
        int ways = Integer.bitCount(open(step, from));
        for (int way = 0; way < 4; way++) {
            if (!isOpen(step, from, way)) continue;
            BigInteger[] c = chance(step, go(from, way), steps - 1, to, known);
            above = above.multiply(c[1]).add(c[0].multiply(below));
            below = below.multiply(c[1]);
        }
        BigInteger[] c = ways == 0 ? chance(step, from, steps - 1, to, known)
            : new BigInteger[] {above, below.multiply(BigInteger.valueOf(ways))};
        BigInteger g = c[0].gcd(c[1]);
        c = new BigInteger[] {c[0].divide(g), c[1].divide(g)};
        known.put(100 * steps + from, c);
        return c;
    }

    long stray(int step, int from, int steps, int to, int what) {
        if (!isStep(step) || !isDay(from) || steps < 0 || steps > 8 || !isDay(to) || what < 0 || what > 1) {
            return Long.MIN_VALUE + 2;
        }
        return chance(step, from, steps, to, new HashMap<>())[what].longValueExact();
    }

    int child(int seed, int day, int steps, int what) {
        if (!isDay(day) || steps < 1 || steps > 99 || what < 0 || what > 1) return -2;
        long s = seed;
        int went = 0;
        for (int step = 0; step < steps; step++) {
            s = Math.floorMod(1103515245L * s + 12345L, 1L << 32);
            int way = (int) (s / 65536 % 4);
            if (isOpen(step, day, way)) {
                day = go(day, way);
                went++;
            }
        }
        return what == 0 ? day : went;
    }

    // ---- sheets: the machine's own rows and what it throws over them

    int found(int number) {
        finding = number;
        return -10 - number;
    }

    int found(RuntimeException e) {
        if (e instanceof NullPointerException) return found(1);
        if (e instanceof IndexOutOfBoundsException) return found(2);
        if (e instanceof ClassCastException) return found(3);
        if (e instanceof ArrayStoreException) return found(4);
        if (e instanceof NegativeArraySizeException) return found(5);
        throw e;
    }

    int sheet(int s, int form, int n) {
        if (s < 0 || s > 3 || form < 0 || form > 2 || n > 60) return -2;
        try {
            sheets[s] = form == 0 ? new byte[n] : form == 1 ? new short[n] : new int[n];
            return n;
        } catch (NegativeArraySizeException e) {
            return found(e);
        }
    }

    int lose(int s) {
        if (s < 0 || s > 3) return -2;
        if (sheets[s] == null) return found(1);
        int n = java.lang.reflect.Array.getLength(sheets[s]);
        sheets[s] = null;
        return n;
    }

    int put(int s, int form, int i, int v) {
        if (s < 0 || s > 3 || form < 0 || form > 2) return -2;
        try {
            if (form == 0) ((byte[]) sheets[s])[i] = (byte) v;
            if (form == 1) ((short[]) sheets[s])[i] = (short) v;
            if (form == 2) ((int[]) sheets[s])[i] = v;
            return 1;
        } catch (NullPointerException | ClassCastException | IndexOutOfBoundsException e) {
            return found(e);
        }
    }

    int get(int s, int form, int i) {
        if (s < 0 || s > 3 || form < 0 || form > 2) return Integer.MIN_VALUE;
        try {
            return form == 0 ? ((byte[]) sheets[s])[i] : form == 1 ? ((short[]) sheets[s])[i] : ((int[]) sheets[s])[i];
        } catch (NullPointerException | ClassCastException | IndexOutOfBoundsException e) {
            found(e);
            return Integer.MIN_VALUE;
        }
    }

    int copy(int s, int i, int t, int j, int n) {
        if (s < 0 || s > 3 || t < 0 || t > 3) return -2;
        try {
            System.arraycopy(sheets[s], i, sheets[t], j, n);
            return 1;
        } catch (NullPointerException | ArrayStoreException | IndexOutOfBoundsException e) {
            return found(e);
        }
    }

    int write(int w, int s) {
        if (!isWalker(w) || s < 0 || s > 3) return -2;
        if (sheets[s] == null) return found(1);
        int n = java.lang.reflect.Array.getLength(sheets[s]);
        int form = sheets[s] instanceof byte[] ? 0 : sheets[s] instanceof short[] ? 1 : 2;
        for (int i = 0; i < n; i++) put(s, form, i, on(w, i, 0));
        return n;
    }

    int count(int what) {
        switch (what) {
            case 0: return days();
            case 1: return rows().length;
            case 2: return walkers().length;
            case 3: return texts[0].length();
            case 4: return texts[1].length();
            case 5: return hedges.size();
            case 6: return gaps.size();
            case 7: return sightings.size();
            case 8: return finding;
            default: return -2;
        }
    }

    long digest() {
        List<Long> all = new ArrayList<>();
        for (int i = 0; i <= 7; i++) all.add((long) count(i));
        for (int i = 0; i < 2; i++) all.add((long) fault(i));
        for (int d = 0; d < days(); d++) {
            all.add((long) open(0, d));
            all.add((long) open(50, d));
            all.add((long) joined(5, d));
            all.add((long) way(5, 0, d));
            all.add((long) cut(5, 0, d));
        }
        for (int w = 0; w < walkers().length; w++) {
            for (int i = 0; i < 3; i++) all.add((long) walker(w, i));
            all.add((long) on(w, 7, 0));
            all.add((long) on(w, 7, 1));
            all.add((long) on(w, 99, 0));
            all.add((long) comes(w, 0));
            all.add((long) round(w));
        }
        all.add((long) meet(0, 1));
        all.add((long) trod(20, 0));
        all.add((long) trod(20, 1));
        all.add((long) guard(5, 0, 8, -1));
        all.add((long) guard(5, 0, 8, 0));
        for (int hand = 0; hand < 3; hand++) {
            all.add((long) began(hand, -1));
            all.add((long) began(hand, 0));
            all.add((long) look(hand, 9));
        }
        all.add(stray(5, 0, 5, 1, 0));
        all.add(stray(5, 0, 5, 1, 1));
        all.add((long) child(7, 0, 30, 0));
        all.add((long) child(7, 0, 30, 1));
        long h = 17;
        for (long v : all) h = 31 * h + v;
        return h;
    }
}
