/** The boundary cases of hedges and gaps: the terms of them, and promises 7 to 11. */
public final class PlaceBoundsTest {
    private static final int NONE = Checks.NONE, BAD = Checks.BAD, NOT = Checks.NOT, FULL = Checks.FULL;
    private static final int[] NO_STEP = {-1, 100, Checks.LEAST, Checks.MOST};
    private static final int[] NO_DAY = {-1, 36, 39, Checks.LEAST, Checks.MOST};
    private static final int[] NO_SIDE = {-1, 2, Checks.LEAST, Checks.MOST};

    private static void due(String call, long got, long want) {
        Checks.due(call, got, want);
    }

    private static MazeCalendar withItems(String maze, int form, int... items) {
        MazeCalendar x = Checks.with(maze);
        x.sheet(0, form, items.length);
        for (int i = 0; i < items.length; i++) x.put(0, form, i, items[i]);
        return x;
    }

    private static void eightHedges() {
        Checks.sentence("HEDGES, 8 at most (0 on)");
        MazeCalendar x = Checks.with(Checks.ALL_OPEN);
        for (int n = 1; n <= 8; n++) due("hedge " + n, x.hedge(0, 6 * (n % 6) + n / 6, 0), n);
        due("a ninth", x.hedge(0, 35, 0), FULL);
        due("a ninth like the eighth", x.hedge(0, 13, 0), FULL);
        due("how many", x.count(5), 8);
        due("the first counts", x.open(0, 6), 5);
        due("the eighth counts", x.open(0, 13) & 2, 0);
        due("gaps are not full", x.gap(0, 35, 0), 1);
        due("one back", x.back(0), 7);
        due("the eighth is undone", x.open(0, 13) & 2, 2);
        due("one again", x.hedge(99, 0, 1), 8);
        due("full again", x.hedge(0, 0, 0), FULL);
    }

    private static void eightGaps() {
        Checks.sentence("GAPS, 8 at most (0 on)");
        MazeCalendar x = Checks.with(Checks.ALL_SHUT);
        for (int n = 1; n <= 8; n++) due("gap " + n, x.gap(0, 6 * (n % 6) + n / 6, 0), n);
        due("a ninth", x.gap(0, 33, 0), FULL);
        due("how many", x.count(6), 8);
        due("the first counts", x.open(0, 6), 2);
        due("the eighth counts", x.open(0, 13), 10);
        due("the ninth does not", x.open(0, 33), 0);
        due("hedges are not full", x.hedge(0, 35, 0), 1);
        due("one back", x.back(1), 7);
        due("the eighth is undone", x.open(0, 13), 8);
        due("one again", x.gap(0, 33, 0), 8);
        due("full again", x.gap(0, 0, 0), FULL);
    }

    private static void likeOnes() {
        Checks.sentence("A HEDGE more, a GAP more: how many (of like ones, too)");
        MazeCalendar x = Checks.with("b.;..");
        for (int n = 1; n <= 8; n++) due("the same hedge", x.hedge(5, 0, 0), n);
        due("a ninth", x.hedge(5, 0, 0), FULL);
        for (int n = 7; n >= 1; n--) {
            due("one back", x.back(0), n);
            due("still closed", x.open(5, 0), 4);
        }
        due("the last back", x.back(0), 0);
        due("open", x.open(5, 0), 6);
        for (int n = 1; n <= 8; n++) due("the same gap", x.gap(5, 1, 1), n);
        due("a ninth", x.gap(5, 1, 1), FULL);
        for (int n = 7; n >= 0; n--) due("one back", x.back(1), n);
        due("closed", x.open(5, 1), 8);
    }

    private static void fromAStepOn() {
        Checks.sentence("from a STEP (0 to 99) on");
        for (int step : new int[] {0, 1, 50, 98, 99}) {
            MazeCalendar x = Checks.with("r.;..");
            due("a hedge", x.hedge(step, 0, 0), 1);
            due("a gap", x.gap(step, 0, 1), 1);
            for (int n : new int[] {0, step - 1, step, step + 1, 99}) {
                if (n >= 0 && n <= 99) due("open in " + n + " of " + step, x.open(n, 0), n < step ? 2 : 4);
            }
        }
        MazeCalendar x = Checks.with("r.;..");
        for (int step : NO_STEP) {
            due("a hedge from " + step, x.hedge(step, 0, 0), BAD);
            due("a gap from " + step, x.gap(step, 0, 1), BAD);
        }
        due("no hedges", x.count(5), 0);
        due("no gaps", x.count(6), 0);
        due("in step 0", x.open(0, 0), 2);
        due("in step 99", x.open(99, 0), 2);
    }

    private static void rightAndUnder() {
        Checks.sentence("one between a DAY and the one on its right (side 0), or under it (1), whatever was there");
        MazeCalendar x = Checks.with("bbb;bbb;bbb");
        due("on the right", x.hedge(0, 4, 0), 1);
        due("not under, nor elsewhere", x.open(0, 4), 13);
        due("from there", x.open(0, 5), 5);
        due("under", x.hedge(0, 4, 1), 2);
        due("both", x.open(0, 4), 9);
        due("from under", x.open(0, 7), 10);
        MazeCalendar shut = Checks.with("..;..");
        due("where it is not open", shut.hedge(0, 0, 0), 1);
        due("it is not", shut.open(99, 0), 0);
    }

    private static void sides() {
        Checks.sentence("A HEDGE more (DAY 0 to 35, side 0, 1): how many. BAD; FULL");
        MazeCalendar x = Checks.with(Checks.ALL_OPEN);
        due("day 0", x.hedge(0, 0, 0), 1);
        due("day 35", x.hedge(0, 35, 1), 2);
        due("a day that there is not", Checks.with(".").hedge(0, 35, 1), 1);
        due("of no days at all", new MazeCalendar().hedge(99, 0, 0), 1);
        for (int day : NO_DAY) due("day " + day, x.hedge(0, day, 0), BAD);
        for (int side : NO_SIDE) due("side " + side, x.hedge(0, 0, side), BAD);
        due("how many", x.count(5), 2);
        due("gap of day 0", x.gap(0, 0, 0), 1);
        due("gap of day 35", x.gap(0, 35, 1), 2);
        due("gap of no days at all", new MazeCalendar().gap(99, 35, 1), 1);
        for (int day : NO_DAY) due("day " + day, x.gap(0, day, 0), BAD);
        for (int side : NO_SIDE) due("side " + side, x.gap(0, 0, side), BAD);
        due("how many", x.count(6), 2);
    }

    private static void refusalsOfPlaces() {
        Checks.sentence("hedge, gap: BAD; FULL: the first that fits");
        MazeCalendar x = Checks.with("..");
        for (int n = 0; n < 8; n++) {
            x.hedge(0, 0, 0);
            x.gap(0, 0, 0);
        }
        for (int step : NO_STEP) due("hedge from " + step, x.hedge(step, 0, 0), BAD);
        for (int day : NO_DAY) due("hedge of " + day, x.hedge(0, day, 0), BAD);
        for (int side : NO_SIDE) due("hedge by " + side, x.hedge(0, 0, side), BAD);
        for (int step : NO_STEP) due("gap from " + step, x.gap(step, 0, 0), BAD);
        for (int day : NO_DAY) due("gap of " + day, x.gap(0, day, 0), BAD);
        for (int side : NO_SIDE) due("gap by " + side, x.gap(0, 0, side), BAD);
        due("a hedge that might be", x.hedge(99, 35, 1), FULL);
        due("a gap that might be", x.gap(99, 35, 1), FULL);
    }

    private static void bothDays() {
        Checks.sentence("GAPS: from a STEP on it is open there, if there are both DAYS");
        MazeCalendar x = Checks.with("..;..;..");
        x.gap(0, 1, 0);
        x.gap(0, 3, 0);
        x.gap(0, 5, 0);
        x.gap(0, 4, 1);
        x.gap(0, 5, 1);
        x.gap(0, 6, 0);
        x.gap(0, 35, 1);
        for (int d = 0; d < 6; d++) due("open of " + d, x.open(99, d), 0);
        due("no way to the next row", x.way(0, 1, 2), NONE);
        due("nor by a gap", x.cut(0, 1, 2), 2);
        x.wipe(0);
        Checks.type(x, 0, "...;...");
        due("in another maze 1 has one on its right", x.open(0, 1), 2);
        due("3, too", x.open(0, 3), 2);
        due("4 none under it", x.open(0, 4), 8);
        due("5 none", x.open(0, 5), 0);
        MazeCalendar edge = Checks.with("bb;bb");
        edge.hedge(0, 1, 0);
        edge.hedge(0, 3, 0);
        edge.hedge(0, 2, 1);
        int[] open = {6, 12, 3, 9};
        for (int d = 0; d < 4; d++) due("a hedge on the edge closes nothing, " + d, edge.open(0, d), open[d]);
    }

    private static void latestStep() {
        Checks.sentence("Of both for one place that of the latest STEP counts");
        MazeCalendar x = Checks.with("..");
        x.gap(98, 0, 0);
        x.hedge(99, 0, 0);
        x.gap(0, 0, 0);
        x.hedge(1, 0, 0);
        int[] steps = {0, 1, 97, 98, 99};
        int[] open = {2, 0, 0, 2, 0};
        for (int k = 0; k < 5; k++) due("in step " + steps[k], x.open(steps[k], 0), open[k]);
        x.back(0);
        due("a hedge back", x.open(1, 0), 2);
        x.back(0);
        due("all open", x.open(99, 0), 2);
        MazeCalendar later = Checks.with("r.");
        later.hedge(5, 0, 0);
        later.gap(4, 0, 0);
        due("an earlier gap that came later", later.open(5, 0), 0);
        due("an unlike side", later.gap(9, 0, 1), 2);
        due("is another place", later.open(9, 0), 0);
    }

    private static void likeSteps() {
        Checks.sentence("of like ones a GAP");
        for (int step : new int[] {0, 99}) {
            MazeCalendar x = Checks.with("..");
            x.gap(step, 0, 0);
            x.hedge(step, 0, 0);
            due("the gap came first", x.open(step, 0), 2);
            due("the hedge stays, too", x.count(5), 1);
            MazeCalendar y = Checks.with("r.");
            y.hedge(step, 0, 0);
            due("the hedge alone", y.open(step, 0), 0);
            y.gap(step, 0, 0);
            due("the hedge came first", y.open(step, 0), 2);
        }
    }

    private static void backOfPlaces() {
        Checks.sentence("The last HEDGE (what = 0), GAP (1) is undone: how many are left. BAD; NOT: there is none");
        MazeCalendar x = Checks.with("b.;..");
        for (int what : new int[] {-1, 2, Checks.LEAST, Checks.MOST}) due("bad ahead of not, " + what, x.back(what), BAD);
        due("no hedge", x.back(0), NOT);
        due("no gap", x.back(1), NOT);
        x.hedge(0, 0, 0);
        due("no gap, though a hedge", x.back(1), NOT);
        due("closed still", x.open(0, 0), 4);
        due("the one", x.back(0), 0);
        due("open", x.open(0, 0), 6);
        due("none", x.back(0), NOT);
        x.gap(0, 1, 1);
        due("no hedge, though a gap", x.back(0), NOT);
        due("the one", x.back(1), 0);
        due("none", x.back(1), NOT);
        x.hedge(50, 0, 0);
        x.hedge(10, 0, 1);
        due("the last that came, not the latest step", x.back(0), 1);
        due("it is undone", x.open(99, 0), 4);
    }

    private static void readWhole() {
        Checks.sentence("GAPS from a SHEET: its items, three for each, as many as are whole: how many");
        for (int n = 0; n <= 7; n++) {
            MazeCalendar x = withItems(Checks.ALL_SHUT, 2, new int[n]);
            due("of " + n + " items", x.read(0), n / 3);
            due("gaps of " + n + " items", x.count(6), n / 3);
        }
        MazeCalendar x = withItems(Checks.ALL_SHUT, 0, 99, 0, 0, 0, 34, 0, 5, 5, 1, 0, 0);
        due("the last two are not whole", x.read(0), 3);
        due("step 98", x.open(98, 0), 0);
        due("step 99", x.open(99, 0), 2);
        due("day 34", x.open(0, 34), 2);
        due("side 1", x.open(5, 5), 4);
        due("the sheet stays", x.lose(0), 11);
    }

    private static void readAsLong() {
        Checks.sentence("read: as long as each may be");
        int[][] wrong = {{-1, 0, 0}, {100, 0, 0}, {0, -1, 0}, {0, 36, 0}, {0, 0, -1}, {0, 0, 2}};
        for (int form = 0; form < 3; form++) {
            for (int[] w : wrong) {
                MazeCalendar x = withItems(Checks.ALL_SHUT, form, 99, 35, 1, w[0], w[1], w[2], 0, 0, 0);
                due("one, then none", x.read(0), 1);
                due("gaps", x.count(6), 1);
                due("what is behind it does not come", x.open(99, 0), 0);
                due("no finding", x.count(8), 0);
                MazeCalendar none = withItems(Checks.ALL_SHUT, form, w[0], w[1], w[2], 0, 0, 0);
                due("none at once", none.read(0), 0);
                due("no gaps", none.count(6), 0);
            }
        }
        MazeCalendar most = withItems(Checks.ALL_SHUT, 2, Checks.MOST, 0, 0);
        due("far beyond", most.read(0), 0);
    }

    private static void readUntilFull() {
        Checks.sentence("read: GAPS, 8 at most");
        MazeCalendar x = withItems(Checks.ALL_SHUT, 0, new int[60]);
        due("twenty whole ones, eight come", x.read(0), 8);
        due("gaps", x.count(6), 8);
        due("none more", x.read(0), 0);
        due("not a refusal that changes", x.count(6), 8);
        x.back(1);
        due("one more", x.read(0), 1);
        due("gaps", x.count(6), 8);
        MazeCalendar y = withItems(Checks.ALL_SHUT, 1, new int[24]);
        due("eight whole ones", y.read(0), 8);
    }

    private static void readRefusals() {
        Checks.sentence("read: BAD; NULL");
        MazeCalendar x = Checks.with("..");
        for (int s : new int[] {-1, 4, Checks.LEAST, Checks.MOST}) due("sheet " + s, x.read(s), BAD);
        due("no finding", x.count(8), 0);
        for (int s = 0; s < 4; s++) due("lost " + s, x.read(s), Checks.NULL);
        due("the finding", x.count(8), 1);
        x.sheet(3, 0, 0);
        due("of an empty sheet", x.read(3), 0);
        for (int n = 0; n < 8; n++) x.gap(0, 0, 0);
        due("of an empty sheet when full", x.read(3), 0);
        due("lost when full", x.read(0), Checks.NULL);
    }

    private static void openOfDays() {
        Checks.sentence("OPEN, as bits. BAD: also a DAY that there is not");
        MazeCalendar x = Checks.with(Checks.CROSS);
        due("none", x.open(0, 0), 0);
        due("all", x.open(0, 4), 15);
        due("the first step", x.open(0, 1), 4);
        due("the last step", x.open(99, 7), 1);
        due("the last day", x.open(99, 8), 0);
        for (int step : NO_STEP) due("step " + step, x.open(step, 0), BAD);
        for (int day : new int[] {-1, 9, 35, 36, Checks.LEAST, Checks.MOST}) due("day " + day, x.open(0, day), BAD);
        x.wipe(0);
        due("no days", x.open(0, 0), BAD);
    }

    private static void placesStay() {
        Checks.sentence("HEDGES that grow, GAPS that are cut, by DAYS: they stay when the text is another");
        MazeCalendar x = Checks.with("r.");
        x.hedge(0, 0, 0);
        x.gap(3, 1, 1);
        due("wiped", x.wipe(0), 2);
        due("hedges", x.count(5), 1);
        due("gaps", x.count(6), 1);
        Checks.type(x, 0, "rr;..");
        due("the hedge counts", x.open(0, 0), 0);
        due("the gap counts", x.open(3, 1), 4);
    }

    public static void main(String[] args) {
        eightHedges();
        eightGaps();
        likeOnes();
        fromAStepOn();
        rightAndUnder();
        sides();
        refusalsOfPlaces();
        bothDays();
        latestStep();
        likeSteps();
        backOfPlaces();
        readWhole();
        readAsLong();
        readUntilFull();
        readRefusals();
        openOfDays();
        placesStay();
        Checks.end();
    }
}
