/** The boundary cases of what was seen, and of chance: fractions, lots, and promises 23 to 28. */
public final class SeenBoundsTest {
    private static final int NONE = Checks.NONE, BAD = Checks.BAD, FULL = Checks.FULL;
    private static final long BAD_LONG = Checks.BAD_LONG;
    private static final int[] NO_STEP = {-1, 100, Checks.LEAST, Checks.MOST};
    private static final int[] NO_HAND = {-1, 3, Checks.LEAST, Checks.MOST};
    private static final int[] NO_WHAT = {-1, 2, Checks.LEAST, Checks.MOST};
    // For a maze of 9 days.
    private static final int[] NO_DAY = {-1, 9, 35, 36, Checks.LEAST, Checks.MOST};

    private static void due(String call, long got, long want) {
        Checks.due(call, got, want);
    }

    private static void eightSeen() {
        Checks.sentence("SEEN, 8 at most; SEEN more: how many. FULL");
        MazeCalendar x = Checks.with("..");
        for (int n = 1; n <= 7; n++) due("seen " + n, x.seen(n, 0), n);
        due("began on day 0", x.began(0, NONE), 4);
        due("the eighth", x.seen(8, 1), 8);
        due("it counts", x.began(0, NONE), 0);
        due("a ninth", x.seen(9, 0), FULL);
        due("a ninth like the first", x.seen(1, 0), FULL);
        due("how many", x.count(7), 8);
        due("all are forgotten", x.forget(), 8);
        for (int n = 1; n <= 8; n++) due("the same again", x.seen(0, 0), n);
        due("a ninth of the same", x.seen(0, 0), FULL);
        due("it would have counted", x.began(0, NONE), 4);
        due("a ninth that would not fit", x.seen(0, 1), FULL);
        due("does not count", x.began(0, NONE), 4);
    }

    private static void seenBounds() {
        Checks.sentence("SEEN: behind so many STEPS (0 to 99) a lost one was on a DAY (0 to 35). BAD");
        MazeCalendar x = new MazeCalendar();
        due("0 and 0", x.seen(0, 0), 1);
        due("99 and 35, though there are no days", x.seen(99, 35), 2);
        for (int n : NO_STEP) due("steps " + n, x.seen(n, 0), BAD);
        for (int d : new int[] {-1, 36, 39, Checks.LEAST, Checks.MOST}) due("day " + d, x.seen(0, d), BAD);
        due("how many", x.count(7), 2);
        MazeCalendar all = Checks.with(Checks.ALL_SHUT);
        all.seen(99, 35);
        due("on the last day", all.began(0, NONE), 4);
        due("the first of them", all.began(0, 0), 140);
        due("the last of them", all.began(0, 3), 143);
    }

    private static void seenRefusals() {
        Checks.sentence("seen: BAD; FULL: the first that fits");
        MazeCalendar x = Checks.with("..");
        for (int n = 0; n < 8; n++) x.seen(0, 0);
        for (int n : NO_STEP) due("steps " + n, x.seen(n, 0), BAD);
        for (int d : new int[] {-1, 36, Checks.LEAST, Checks.MOST}) due("day " + d, x.seen(0, d), BAD);
        due("one that might be", x.seen(99, 35), FULL);
        due("how many", x.count(7), 8);
    }

    private static void forgetAll() {
        Checks.sentence("All SEEN are forgotten: how many");
        MazeCalendar x = Checks.with("..");
        due("none", x.forget(), 0);
        for (int n = 1; n <= 8; n++) {
            for (int k = 0; k < n; k++) x.seen(99, 1);
            due("of " + n, x.forget(), n);
            due("none is left", x.count(7), 0);
            due("nothing of it counts", x.began(0, NONE), 8);
        }
        due("none again", x.forget(), 0);
    }

    private static void beganSoThatAll() {
        Checks.sentence("BEGAN of a HAND: so that all that was SEEN comes out so: how many; the i-th; NONE");
        MazeCalendar x = Checks.with("r.");
        x.seen(0, 0);
        due("on 0", x.began(0, NONE), 4);
        x.seen(1, 1);
        due("then on 1", x.began(0, NONE), 4);
        x.seen(99, 1);
        due("behind 99 on 1", x.began(0, NONE), 4);
        x.seen(98, 1);
        due("not behind 98, too", x.began(0, NONE), 0);
        due("the first of none", x.began(0, 0), NONE);
        due("the last of none", x.began(0, 143), NONE);
        MazeCalendar late = Checks.with("..");
        late.gap(98, 0, 0);
        late.seen(98, 0);
        late.seen(99, 1);
        due("it went in step 98", late.began(2, NONE), 4);
        late.back(1);
        late.gap(99, 0, 0);
        due("not in step 99", late.began(2, NONE), 0);
        MazeCalendar under = Checks.with(".;.");
        under.gap(98, 0, 1);
        under.seen(98, 0);
        under.seen(99, 1);
        due("it went down in step 98", under.began(2, NONE), 4);
        under.seen(97, 1);
        due("but not back", under.began(2, NONE), 0);
        MazeCalendar one = Checks.with(Checks.CROSS);
        one.seen(0, 4);
        one.seen(1, 3);
        one.seen(2, 4);
        due("one start alone, by the left hand", one.began(0, NONE), 1);
        due("it headed n", one.began(0, 0), 16);
        due("one start alone, straight on", one.began(2, NONE), 1);
        due("it headed w", one.began(2, 0), 19);
        MazeCalendar twice = Checks.with("..");
        twice.seen(5, 0);
        twice.seen(5, 0);
        due("the same twice", twice.began(0, NONE), 4);
        twice.seen(5, 1);
        due("on two days at once", twice.began(0, NONE), 0);
        twice.seen(5, 0);
        due("it stays so", twice.began(0, NONE), 0);
    }

    private static void beganOnDaysThatThereAre() {
        Checks.sentence("BEGAN: on which DAY (4 times the DAY, and the way)");
        MazeCalendar x = Checks.with(Checks.CROSS);
        due("of all", x.began(0, NONE), 36);
        for (int i = 0; i < 36; i++) due("start " + i, x.began(i % 3, i), i);
        due("beyond them", x.began(0, 36), NONE);
        x.seen(0, 8);
        due("the last day", x.began(0, NONE), 4);
        due("its first way", x.began(0, 0), 32);
        due("its last way", x.began(0, 3), 35);
        due("no fifth way", x.began(0, 4), NONE);
        x.forget();
        x.seen(0, 9);
        due("a day that there is not", x.began(0, NONE), 0);
        due("no days", new MazeCalendar().began(2, NONE), 0);
    }

    private static void beganRefusals() {
        Checks.sentence("BEGAN: how many (i = NONE), the i-th (0 to 143; NONE). BAD (HAND 0 l, 1 r, 2 a)");
        MazeCalendar x = Checks.with(Checks.ALL_OPEN);
        due("as many as there may be", x.began(2, NONE), 144);
        due("the first", x.began(0, 0), 0);
        due("the last", x.began(2, 143), 143);
        for (int i : new int[] {-2, 144, Checks.LEAST, Checks.MOST}) due("i " + i, x.began(0, i), BAD);
        for (int hand : NO_HAND) due("hand " + hand, x.began(hand, NONE), BAD);
        MazeCalendar none = new MazeCalendar();
        due("143 of none", none.began(0, 143), NONE);
        due("144 of none", none.began(0, 144), BAD);
        due("-2 of none", none.began(0, -2), BAD);
        due("hand 3 of none", none.began(3, 0), BAD);
    }

    private static void lookMost() {
        Checks.sentence("LOOK: the DAY on which of all these most are, of like ones the least; NONE: there are none");
        MazeCalendar shut = Checks.with(Checks.ALL_SHUT);
        due("four on each: the least", shut.look(0, 99), 0);
        shut.seen(0, 35);
        due("on the last day", shut.look(0, 99), 35);
        shut.seen(0, 34);
        due("there are none", shut.look(0, 0), NONE);
        due("no days", new MazeCalendar().look(0, 0), NONE);
        MazeCalendar late = Checks.with("..");
        late.gap(98, 0, 0);
        late.seen(0, 0);
        due("behind 98", late.look(0, 98), 0);
        due("behind 99", late.look(0, 99), 1);
        MazeCalendar one = Checks.with(Checks.CROSS);
        one.seen(0, 4);
        one.seen(1, 3);
        due("one alone, where it began", one.look(0, 0), 4);
        due("where it was seen", one.look(0, 1), 3);
        due("behind what was seen", one.look(0, 3), 1);
        MazeCalendar under = Checks.with(".;.");
        under.gap(98, 0, 1);
        under.seen(0, 0);
        due("not yet down behind 98", under.look(0, 98), 0);
        due("down behind 99", under.look(0, 99), 1);
        MazeCalendar cross = Checks.with(Checks.CROSS);
        due("most come to the middle", cross.look(1, 1), 4);
        cross.seen(1, 9);
        due("none: a day that there is not", cross.look(1, 1), NONE);
    }

    private static void lookRefusals() {
        Checks.sentence("LOOK of a HAND, behind so many STEPS; NONE. BAD");
        MazeCalendar x = Checks.with("..");
        for (int hand = 0; hand < 3; hand++) due("hand " + hand, x.look(hand, 0), 0);
        for (int hand : NO_HAND) due("hand " + hand, x.look(hand, 0), BAD);
        for (int n : NO_STEP) due("steps " + n, x.look(0, n), BAD);
        MazeCalendar none = new MazeCalendar();
        due("hand 3 of none", none.look(3, 0), BAD);
        due("steps 100 of none", none.look(0, 100), BAD);
    }

    private static void fraction(MazeCalendar x, int from, int steps, int to, long above, long below) {
        String call = "from " + from + " in " + steps + " to " + to;
        due(call + ", above", x.stray(0, from, steps, to, 0), above);
        due(call + ", below", x.stray(0, from, steps, to, 1), below);
    }

    private static void straySteps() {
        Checks.sentence("STRAY: from a DAY one goes so many STEPS (0 to 8) (if none is open, one stays)");
        MazeCalendar x = Checks.with("r.");
        fraction(x, 0, 0, 0, 1, 1);
        fraction(x, 0, 0, 1, 0, 1);
        fraction(x, 0, 1, 1, 1, 1);
        fraction(x, 0, 7, 1, 1, 1);
        fraction(x, 0, 8, 0, 1, 1);
        for (int n : new int[] {-1, 9, Checks.LEAST, Checks.MOST}) {
            due("steps " + n, x.stray(0, 0, n, 0, 0), BAD_LONG);
            due("steps " + n + ", below", x.stray(0, 0, n, 0, 1), BAD_LONG);
        }
        MazeCalendar alone = Checks.with(".");
        for (int n = 0; n <= 8; n++) fraction(alone, 0, n, 0, 1, 1);
        MazeCalendar two = Checks.with("..");
        fraction(two, 1, 8, 1, 1, 1);
        fraction(two, 1, 8, 0, 0, 1);
    }

    private static long common(long a, long b) {
        return b == 0 ? a : common(b, a % b);
    }

    private static void lowestTerms() {
        Checks.sentence("FRACTIONS are told in lowest terms, above and below (0 by 1)");
        MazeCalendar x = Checks.with("rr.");
        fraction(x, 1, 1, 0, 1, 2);
        fraction(x, 1, 2, 1, 1, 1);
        fraction(x, 0, 8, 2, 1, 2);
        fraction(x, 0, 8, 1, 0, 1);
        fraction(x, 0, 0, 2, 0, 1);
        long whole = 429981696L;
        for (int steps : new int[] {0, 1, 7, 8}) {
            for (int from : new int[] {0, 14, 35}) {
                MazeCalendar all = Checks.with(Checks.ALL_OPEN);
                long sum = 0;
                for (int to = 0; to < 36; to++) {
                    long above = all.stray(0, from, steps, to, 0), below = all.stray(0, from, steps, to, 1);
                    due("in lowest terms", common(above, below), 1);
                    due("below is of twelfths", whole % below, 0);
                    sum += above * (whole / below);
                }
                due("all chances of " + steps + " steps from " + from, sum, whole);
            }
        }
        // The first STEP is sure, each that follows is one of two ways.
        MazeCalendar row = Checks.with("rrrrr.");
        fraction(row, 0, 5, 5, 1, 16);
        fraction(row, 5, 5, 0, 1, 16);
        MazeCalendar far = Checks.with(Checks.PATH);
        fraction(far, 30, 8, 27, 1, 128);
    }

    private static void strayInAToldStep() {
        Checks.sentence("STRAY: by what is open in a told STEP for good");
        MazeCalendar x = Checks.with("r..");
        x.gap(1, 1, 0);
        x.hedge(99, 0, 0);
        due("in step 0, 8 steps long", x.stray(0, 0, 8, 0, 0), 1);
        due("in step 1", x.stray(1, 0, 8, 0, 1), 2);
        due("in step 98", x.stray(98, 0, 8, 0, 1), 2);
        due("in step 99", x.stray(99, 0, 8, 0, 1), 1);
    }

    private static void strayRefusals() {
        Checks.sentence("STRAY: above, below. BAD. (As the least long.)");
        MazeCalendar x = Checks.with(Checks.CROSS);
        due("BAD as the least long", BAD_LONG, -9223372036854775806L);
        for (int step : NO_STEP) due("step " + step, x.stray(step, 0, 0, 0, 0), BAD_LONG);
        for (int day : NO_DAY) {
            due("from " + day, x.stray(0, day, 0, 0, 0), BAD_LONG);
            due("to " + day, x.stray(0, 0, 0, day, 0), BAD_LONG);
            due("both " + day, x.stray(0, day, 0, day, 1), BAD_LONG);
        }
        for (int what : NO_WHAT) due("what " + what, x.stray(0, 0, 0, 0, what), BAD_LONG);
        due("no days", new MazeCalendar().stray(0, 0, 0, 0, 0), BAD_LONG);
        due("the last of each", x.stray(99, 8, 8, 8, 1), 1);
    }

    /** The lot of 4 drawn in a step, by numbers that cannot wrap. */
    private static int lot(int seed, int step) {
        long now = seed & 0xFFFFFFFFL;
        for (int k = 0; k <= step; k++) {
            now = java.math.BigInteger.valueOf(now).multiply(java.math.BigInteger.valueOf(1103515245L))
                .add(java.math.BigInteger.valueOf(12345L)).mod(java.math.BigInteger.valueOf(1L << 32)).longValue();
        }
        return (int) (now / 65536 % 4);
    }

    private static void lotsWrap() {
        Checks.sentence("LOTS: SEED becomes 1103515245 SEED and 12345, as ints that wrap; its upper 16 bits from 0 on, modulo m");
        MazeCalendar x = Checks.with(Checks.CROSS);
        int[] days = {1, 5, 7, 3};
        due("seed 0: n", x.child(0, 4, 1, 0), 1);
        due("seed -1: e", x.child(-1, 4, 1, 0), 5);
        due("seed 1: s", x.child(1, 4, 1, 0), 7);
        due("seed 3, a negative int: w", x.child(3, 4, 1, 0), 3);
        due("the least seed: n", x.child(Checks.LEAST, 4, 1, 0), 1);
        due("the most: e", x.child(Checks.MOST, 4, 1, 0), 5);
        for (int seed = -100; seed <= 100; seed++) due("seed " + seed, x.child(seed, 4, 1, 0), days[lot(seed, 0)]);
        for (int seed : new int[] {Checks.LEAST, Checks.LEAST + 1, Checks.MOST - 1, Checks.MOST, 1 << 16, -(1 << 16)}) {
            due("seed " + seed, x.child(seed, 4, 1, 0), days[lot(seed, 0)]);
        }
    }

    private static void childSteps() {
        Checks.sentence("CHILD: in each STEP from 0 on, so many (1 to 99), a LOT of 4, a way: if it is open in that STEP");
        int east = 0;
        while (lot(east, 98) != 1) east++;
        MazeCalendar x = Checks.with("..");
        x.gap(98, 0, 0);
        due("in step 98, the last of 99", x.child(east, 0, 99, 0), 1);
        due("it went once", x.child(east, 0, 99, 1), 1);
        due("98 steps", x.child(east, 0, 98, 0), 0);
        due("it went not", x.child(east, 0, 98, 1), 0);
        x.back(1);
        x.gap(99, 0, 0);
        due("open from step 99 on", x.child(east, 0, 99, 1), 0);
        MazeCalendar first = Checks.with("..");
        first.gap(0, 0, 0);
        first.hedge(1, 0, 0);
        due("in step 0 alone", first.child(-1, 0, 99, 0), 1);
        due("once", first.child(-1, 0, 99, 1), 1);
        MazeCalendar all = Checks.with(Checks.ALL_OPEN);
        int day = 14, went = 0;
        for (int n = 1; n <= 99; n++) {
            int way = lot(12345, n - 1);
            int[] next = {day < 6 ? day : day - 6, day % 6 == 5 ? day : day + 1, day > 29 ? day : day + 6, day % 6 == 0 ? day : day - 1};
            if (next[way] != day) went++;
            day = next[way];
            due("behind " + n, all.child(12345, 14, n, 0), day);
            due("went behind " + n, all.child(12345, 14, n, 1), went);
        }
    }

    private static void childRefusals() {
        Checks.sentence("CHILD: on which DAY (what = 0), how many times (1). BAD");
        MazeCalendar x = Checks.with(Checks.CROSS);
        due("the last day", x.child(0, 8, 99, 0), 8);
        for (int day : NO_DAY) due("day " + day, x.child(0, day, 1, 0), BAD);
        for (int n : new int[] {0, -1, 100, Checks.LEAST, Checks.MOST}) due("steps " + n, x.child(0, 0, n, 0), BAD);
        for (int what : NO_WHAT) due("what " + what, x.child(0, 0, 1, what), BAD);
        due("no days", new MazeCalendar().child(0, 0, 1, 0), BAD);
    }

    public static void main(String[] args) {
        eightSeen();
        seenBounds();
        seenRefusals();
        forgetAll();
        beganSoThatAll();
        beganOnDaysThatThereAre();
        beganRefusals();
        lookMost();
        lookRefusals();
        straySteps();
        lowestTerms();
        strayInAToldStep();
        strayRefusals();
        lotsWrap();
        childSteps();
        childRefusals();
        Checks.end();
    }
}
