import java.math.BigInteger;
import java.util.ArrayList;
import java.util.Arrays;
import java.util.List;
import java.util.Random;

/**
 * What one promise says of another: each question is answered a second time from the answers of plainer
 * ones, by trying all that the document's words let one try (gaps cut one by one, guards hedged in on all
 * four sides, walkers set out from every day). No object gets more than 512 calls.
 */
public final class TogetherTest {
    private static final int NONE = Checks.NONE;
    private static final String HEADINGS = "nesw", HANDS = "lra";

    private static Random random;

    private static void due(String call, long got, long want) {
        Checks.due(call, got, want);
    }

    /** A maze as it is told, with the hedges and gaps that came to it, to be made as often as needed. */
    private static final class Plan {
        final int rows, columns;
        final String text;
        final List<int[]> hedges = new ArrayList<>();
        final List<int[]> gaps = new ArrayList<>();

        Plan(int rows, int columns, String signs, int changes) {
            this.rows = rows;
            this.columns = columns;
            StringBuilder t = new StringBuilder();
            for (int day = 0; day < rows * columns; day++) {
                if (day > 0 && day % columns == 0) t.append(';');
                t.append(signs.charAt(random.nextInt(signs.length())));
            }
            text = t.toString();
            for (int k = 0; k < changes; k++) {
                hedges.add(new int[] {random.nextInt(60), random.nextInt(rows * columns), random.nextInt(2)});
                gaps.add(new int[] {random.nextInt(60), random.nextInt(rows * columns), random.nextInt(2)});
            }
        }

        int days() {
            return rows * columns;
        }

        MazeCalendar make(String walkers) {
            MazeCalendar x = Checks.with(text, walkers);
            for (int[] h : hedges) x.hedge(h[0], h[1], h[2]);
            for (int[] g : gaps) x.gap(g[0], g[1], g[2]);
            return x;
        }

        /** The day that way, whatever is between; NONE: beyond the edge. */
        int beside(int day, int way) {
            int row = day / columns + (way == 2 ? 1 : way == 0 ? -1 : 0);
            int column = day % columns + (way == 1 ? 1 : way == 3 ? -1 : 0);
            return row < 0 || row >= rows || column < 0 || column >= columns ? NONE : row * columns + column;
        }
    }

    private static Plan plan(int most, int changes) {
        String[] signs = {".rdb", "..rd", "rdb", "bbbr", "......rd", "b"};
        return new Plan(1 + random.nextInt(most), 1 + random.nextInt(most), signs[random.nextInt(signs.length)], changes);
    }

    // ---- ways

    private static void wayByOpen(Plan p, int step) {
        Checks.sentence("WAY, JOINED, THROUGH, HEAR by OPEN");
        MazeCalendar x = p.make("");
        int n = p.days();
        int[][] far = new int[n][n];
        for (int a = 0; a < n; a++) {
            for (int b = 0; b < n; b++) far[a][b] = a == b ? 0 : 1000;
            int ways = x.open(step, a);
            for (int way = 0; way < 4; way++) if ((ways >> way & 1) != 0) far[a][p.beside(a, way)] = 1;
        }
        for (int c = 0; c < n; c++) {
            for (int a = 0; a < n; a++) {
                for (int b = 0; b < n; b++) far[a][b] = Math.min(far[a][b], far[a][c] + far[c][b]);
            }
        }
        for (int a = 0; a < n; a++) {
            MazeCalendar y = p.make("");
            int joined = 0;
            for (int b = 0; b < n; b++) {
                int by = random.nextInt(n), sum = far[a][by] + far[by][b];
                if (far[a][b] < 1000) joined++;
                due(p.text + " way " + a + " " + b, y.way(step, a, b), far[a][b] < 1000 ? far[a][b] : NONE);
                due(p.text + " through " + a + " " + by + " " + b, y.through(step, a, by, b), sum < 1000 ? sum : NONE);
                boolean near = false;
                for (int way = 0; way < 4; way++) near |= p.beside(a, way) == b;
                due(p.text + " hear " + a + " " + b, y.hear(step, a, b), near && far[a][b] != 1 ? 1 : 0);
            }
            due(p.text + " joined " + a, y.joined(step, a), joined);
        }
    }

    /** Notes who is joined by the gaps made, and cuts more, up to three, each at a later place. */
    private static void cutGaps(Plan p, int place, int made, int[][] fewest) {
        // A new one for each lot of gaps, since none is asked more than 512 times.
        MazeCalendar x = p.make("");
        for (int a = 0; a < p.days(); a++) {
            for (int b = a; b < p.days(); b++) {
                if (made < fewest[a][b] && x.way(99, a, b) != NONE) fewest[a][b] = made;
            }
        }
        for (int next = place; made < 3 && next < 2 * p.days(); next++) {
            if (p.beside(next / 2, next % 2 == 0 ? 1 : 2) == NONE) continue;
            p.gaps.add(new int[] {99, next / 2, next % 2});
            cutGaps(p, next + 1, made + 1, fewest);
            p.gaps.remove(p.gaps.size() - 1);
        }
    }

    private static void cutByGaps(Plan p) {
        Checks.sentence("CUT: the fewest places at which it must be open, too: by GAPS that are cut there");
        int[][] fewest = new int[p.days()][p.days()];
        for (int[] row : fewest) Arrays.fill(row, 4);
        cutGaps(p, 0, 0, fewest);
        MazeCalendar x = p.make("");
        for (int a = 0; a < p.days(); a++) {
            for (int b = a; b < p.days(); b++) {
                int want = fewest[a][b] > 3 ? NONE : fewest[a][b];
                due(p.text + " cut " + a + " " + b, x.cut(99, a, b), want);
                due(p.text + " cut " + b + " " + a, x.cut(99, b, a), want);
            }
        }
    }

    /** A day hedged in: four hedges, so that two of them are as many as there may be. */
    private static void hedgeIn(Plan p, MazeCalendar x, int day) {
        for (int way = 0; way < 4; way++) {
            int other = p.beside(day, way);
            if (other == NONE) continue;
            x.hedge(0, way == 1 || way == 2 ? day : other, way % 2 == 1 ? 0 : 1);
        }
    }

    private static boolean parts(Plan p, int from, int to, int... guards) {
        MazeCalendar x = p.make("");
        for (int g : guards) {
            if (g == from || g == to) return false;
            hedgeIn(p, x, g);
        }
        return x.way(0, from, to) == NONE;
    }

    private static int[] guardsOf(Plan p, int from, int to) {
        if (parts(p, from, to)) return new int[0];
        for (int a = 0; a < p.days(); a++) if (parts(p, from, to, a)) return new int[] {a};
        for (int a = 0; a < p.days(); a++) {
            for (int b = a + 1; b < p.days(); b++) if (parts(p, from, to, a, b)) return new int[] {a, b};
        }
        return null;
    }

    private static void guardByHedges(Plan p) {
        Checks.sentence("GUARD: the fewest DAYS through which no one may go: by HEDGES on all their sides");
        for (int from = 0; from < p.days(); from++) {
            MazeCalendar x = p.make("");
            for (int to = 0; to < p.days(); to++) {
                if (from == to) continue;
                int[] g = guardsOf(p, from, to);
                String call = p.text + " guard " + from + " " + to;
                due(call, x.guard(0, from, to, NONE), g == null ? NONE : g.length);
                for (int i = 0; i < 2; i++) due(call + " " + i, x.guard(0, from, to, i), g == null || i >= g.length ? NONE : g[i]);
            }
        }
    }

    // ---- walks

    private static String walkerText(int start, int hand) {
        int day = start / 4;
        return "" + day / 10 + day % 10 + HEADINGS.charAt(start % 4) + HANDS.charAt(hand);
    }

    private static void goOnByOpen(Plan p, int hand) {
        Checks.sentence("In each STEP a WALKER goes on: by OPEN in that STEP; COMES, TROD, write by on");
        String[] tried = {"lsrb", "rslb", "slrb"};
        int start = random.nextInt(4 * p.days());
        int day = start / 4, heading = start % 4;
        MazeCalendar x = p.make(walkerText(start, hand));
        MazeCalendar asked = p.make("");
        int[] first = new int[p.days()];
        Arrays.fill(first, NONE);
        long trod = 0;
        x.sheet(1, 2, 60);
        due("write", x.write(0, 1), 60);
        for (int n = 0; n <= 99; n++) {
            due(p.text + " day behind " + n, x.on(0, n, 0), day);
            due(p.text + " heading behind " + n, x.on(0, n, 1), heading);
            if (first[day] == NONE) first[day] = n;
            trod |= 1L << day;
            if (n % 9 == 0) due("trod", x.trod(n, 0) | (long) x.trod(n, 1) << 18, trod);
            if (n < 60) due("written", x.get(1, 2, n), day);
            int ways = asked.open(n, day);
            for (char c : tried[hand].toCharArray()) {
                int way = (heading + "srbl".indexOf(c)) % 4;
                if ((ways >> way & 1) == 0) continue;
                day = p.beside(day, way);
                heading = way;
                break;
            }
        }
        for (int d = 0; d < p.days(); d++) due(p.text + " comes to " + d, x.comes(0, d), first[d]);
    }

    private static void meetByOn(Plan p) {
        Checks.sentence("MEET: behind how many STEPS both are first on one DAY: by on");
        int a = random.nextInt(4 * p.days()), b = random.nextInt(4 * p.days());
        MazeCalendar x = p.make(walkerText(a, random.nextInt(3)) + ";" + walkerText(b, random.nextInt(3)));
        int met = NONE;
        for (int n = 99; n >= 0; n--) if (x.on(0, n, 0) == x.on(1, n, 0)) met = n;
        due(p.text + " meet", x.meet(0, 1), met);
        due(p.text + " meet the other way", x.meet(1, 0), met);
    }

    /** The maze that is in step 99, told as a text. */
    private static String textOfTheEnd(Plan p) {
        MazeCalendar x = p.make("");
        StringBuilder t = new StringBuilder();
        for (int day = 0; day < p.days(); day++) {
            if (day > 0 && day % p.columns == 0) t.append(';');
            t.append(".rdb".charAt((x.open(99, day) >> 1) & 3));
        }
        return t.toString();
    }

    private static void roundByOn(Plan p, int hand) {
        Checks.sentence("ROUND: all is open as in STEP 99 for good: by WALKERS that go on in such a maze");
        int start = random.nextInt(4 * p.days());
        MazeCalendar x = p.make(walkerText(start, hand));
        String end = textOfTheEnd(p);
        int state = 4 * x.on(0, 99, 0) + x.on(0, 99, 1);
        // Behind 198 steps more it must be on its round: there are 144 states at most.
        for (int k = 0; k < 2; k++) {
            MazeCalendar y = Checks.with(end, walkerText(state, hand));
            state = 4 * y.on(0, 99, 0) + y.on(0, 99, 1);
        }
        int now = state, steps = 0;
        do {
            MazeCalendar y = Checks.with(end, walkerText(now, hand));
            now = 4 * y.on(0, 1, 0) + y.on(0, 1, 1);
            steps++;
        } while (now != state && steps <= 144);
        due(p.text + " round", x.round(0), steps);
    }

    // ---- seen, chance

    private static void beganByWalkers(Plan p, int hand) {
        Checks.sentence("BEGAN, LOOK: by WALKERS that set out from every DAY, every way");
        int truth = random.nextInt(4 * p.days());
        MazeCalendar x = p.make(walkerText(truth, hand));
        int[][] sightings = new int[random.nextInt(4)][];
        for (int k = 0; k < sightings.length; k++) {
            int n = random.nextInt(k == 0 ? 100 : 20);
            sightings[k] = new int[] {n, random.nextInt(12) == 0 ? random.nextInt(36) : x.on(0, n, 0)};
            due("seen", x.seen(sightings[k][0], sightings[k][1]), k + 1);
        }
        int steps = random.nextInt(100);
        List<Integer> starts = new ArrayList<>();
        int[] crowd = new int[36];
        for (int start = 0; start < 4 * p.days(); start++) {
            MazeCalendar y = p.make(walkerText(start, hand));
            boolean fits = true;
            for (int[] s : sightings) fits &= y.on(0, s[0], 0) == s[1];
            if (!fits) continue;
            starts.add(start);
            crowd[y.on(0, steps, 0)]++;
        }
        due(p.text + " began", x.began(hand, NONE), starts.size());
        for (int i = 0; i < 144; i++) due(p.text + " began " + i, x.began(hand, i), i < starts.size() ? starts.get(i) : NONE);
        int best = NONE;
        for (int d = 0; d < 36; d++) if (crowd[d] > (best == NONE ? 0 : crowd[best])) best = d;
        due(p.text + " look", x.look(hand, steps), best);
    }

    /** Adds the chance of each walk of so many steps to where it ends, above a below that all share. */
    private static void strayOn(Plan p, int[] open, int day, int steps, BigInteger weight, BigInteger[] ends) {
        if (steps == 0) {
            ends[day] = ends[day].add(weight);
            return;
        }
        int ways = Integer.bitCount(open[day]);
        if (ways == 0) strayOn(p, open, day, steps - 1, weight, ends);
        for (int way = 0; way < 4; way++) {
            if ((open[day] >> way & 1) == 0) continue;
            strayOn(p, open, p.beside(day, way), steps - 1, weight.divide(BigInteger.valueOf(ways)), ends);
        }
    }

    private static void strayByWalks(Plan p, int step, int steps) {
        Checks.sentence("STRAY: the chance to be on a DAY: by all walks of so many STEPS");
        int from = random.nextInt(p.days());
        MazeCalendar x = p.make("");
        int[] open = new int[p.days()];
        for (int day = 0; day < p.days(); day++) open[day] = x.open(step, day);
        BigInteger below = BigInteger.valueOf(12).pow(steps);
        BigInteger[] ends = new BigInteger[p.days()];
        Arrays.fill(ends, BigInteger.ZERO);
        strayOn(p, open, from, steps, below, ends);
        BigInteger all = BigInteger.ZERO;
        for (int to = 0; to < p.days(); to++) {
            BigInteger common = ends[to].gcd(below);
            due(p.text + " above " + to, x.stray(step, from, steps, to, 0), ends[to].divide(common).longValueExact());
            due(p.text + " below " + to, x.stray(step, from, steps, to, 1), below.divide(common).longValueExact());
            all = all.add(ends[to]);
        }
        due("all chances are one", all.equals(below) ? 1 : 0, 1);
    }

    private static void childByOpen(Plan p) {
        Checks.sentence("CHILD by a SEED: by OPEN in each STEP");
        int seed = random.nextInt(), start = random.nextInt(p.days());
        MazeCalendar x = p.make(""), asked = p.make("");
        int day = start, went = 0;
        BigInteger lot = BigInteger.valueOf(seed), wrap = BigInteger.ONE.shiftLeft(32);
        for (int n = 1; n <= 99; n++) {
            lot = lot.multiply(BigInteger.valueOf(1103515245)).add(BigInteger.valueOf(12345)).mod(wrap);
            int way = lot.shiftRight(16).intValueExact() % 4;
            if ((asked.open(n - 1, day) >> way & 1) != 0) {
                day = p.beside(day, way);
                went++;
            }
            due(p.text + " child behind " + n, x.child(seed, start, n, 0), day);
            due(p.text + " child went in " + n, x.child(seed, start, n, 1), went);
        }
    }

    // ---- sheets

    private static void readByGap(Plan p) {
        Checks.sentence("read: GAPS from a SHEET: by gap with each three of its items");
        MazeCalendar x = p.make(""), y = p.make("");
        int items = random.nextInt(31);
        x.sheet(2, 1, items);
        int[] put = new int[items];
        for (int i = 0; i < items; i++) {
            put[i] = i % 3 == 0 ? random.nextInt(100) : i % 3 == 1 ? random.nextInt(36) : random.nextInt(2);
            if (random.nextInt(20) == 0) put[i] = random.nextInt(400) - 200;
            due("put", x.put(2, 1, i, put[i]), 1);
        }
        int came = 0;
        while (3 * came + 3 <= items && y.gap(put[3 * came], put[3 * came + 1], put[3 * came + 2]) > 0) came++;
        due("read", x.read(2), came);
        due("gaps then", x.count(6), y.count(6));
        due("digest then", x.digest(), y.digest());
    }

    private static void copyByPut(int form) {
        Checks.sentence("copy: n items come to SHEET t (perhaps s, as they were): by get and put");
        MazeCalendar x = new MazeCalendar(), y = new MazeCalendar();
        int s = random.nextInt(4), t = random.nextBoolean() ? s : random.nextInt(4);
        int sizeOfS = 1 + random.nextInt(20), sizeOfT = s == t ? sizeOfS : 1 + random.nextInt(20);
        for (MazeCalendar z : new MazeCalendar[] {x, y}) {
            z.sheet(s, form, sizeOfS);
            if (s != t) z.sheet(t, form, sizeOfT);
            for (int k = 0; k < sizeOfS; k++) z.put(s, form, k, 1000 * k + 7);
        }
        int n = random.nextInt(Math.min(sizeOfS, sizeOfT) + 1);
        int i = random.nextInt(sizeOfS - n + 1), j = random.nextInt(sizeOfT - n + 1);
        due("copy", x.copy(s, i, t, j, n), 1);
        int[] items = new int[n];
        for (int k = 0; k < n; k++) items[k] = y.get(s, form, i + k);
        for (int k = 0; k < n; k++) due("put", y.put(t, form, j + k, items[k]), 1);
        for (int k = 0; k < sizeOfS; k++) due("item " + k + " of s", x.get(s, form, k), y.get(s, form, k));
        for (int k = 0; k < sizeOfT; k++) due("item " + k + " of t", x.get(t, form, k), y.get(t, form, k));
    }

    public static void main(String[] args) {
        int runs = args.length > 0 ? Integer.parseInt(args[0]) : 60;
        for (int run = 0; run < runs; run++) {
            random = new Random(400L + run);
            int hand = run % 3;
            wayByOpen(plan(6, 4), random.nextInt(100));
            cutByGaps(plan(3, 2));
            guardByHedges(plan(4, 0));
            goOnByOpen(plan(6, 6), hand);
            meetByOn(plan(4, 6));
            roundByOn(plan(6, 8), hand);
            beganByWalkers(plan(5, 5), hand);
            strayByWalks(plan(5, 4), random.nextInt(100), random.nextInt(run % 10 == 0 ? 9 : 6));
            childByOpen(plan(6, 6));
            readByGap(plan(6, random.nextInt(4)));
            copyByPut(run % 3);
        }
        Checks.end();
    }
}
