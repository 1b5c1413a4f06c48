/** The boundary cases of ways: promises 17 to 22. */
public final class WayBoundsTest {
    private static final int NONE = Checks.NONE, BAD = Checks.BAD;
    private static final int[] NO_STEP = {-1, 100, Checks.LEAST, Checks.MOST};
    // For a maze of 9 days.
    private static final int[] NO_DAY = {-1, 9, 35, 36, Checks.LEAST, Checks.MOST};

    private static void due(String call, long got, long want) {
        Checks.due(call, got, want);
    }

    private static void openInAToldStep() {
        Checks.sentence("By what is open in a told STEP for good");
        MazeCalendar x = Checks.with("r..");
        x.hedge(99, 0, 0);
        x.gap(98, 1, 0);
        due("way in 97", x.way(97, 0, 2), NONE);
        due("way in 98", x.way(98, 0, 2), 2);
        due("way in 99", x.way(99, 0, 2), NONE);
        due("through in 98", x.through(98, 0, 1, 2), 2);
        due("through in 99", x.through(99, 0, 1, 2), NONE);
        due("joined in 97", x.joined(97, 1), 2);
        due("joined in 98", x.joined(98, 1), 3);
        due("joined in 99", x.joined(99, 1), 2);
        due("hear in 98", x.hear(98, 0, 1), 0);
        due("hear in 99", x.hear(99, 0, 1), 1);
        due("cut in 97", x.cut(97, 0, 2), 1);
        due("cut in 98", x.cut(98, 0, 2), 0);
        due("guard in 97", x.guard(97, 0, 2, NONE), 0);
        due("guard in 98", x.guard(98, 0, 2, NONE), 1);
        due("guard in 99", x.guard(99, 0, 2, NONE), 0);
    }

    private static void wayFewest() {
        Checks.sentence("WAY between two DAYS: the fewest STEPS; NONE: there is none");
        MazeCalendar path = Checks.with(Checks.PATH);
        due("the longest", path.way(0, 0, 30), 35);
        due("the longest back", path.way(0, 30, 0), 35);
        due("the last but one", path.way(0, 0, 31), 34);
        due("itself", path.way(0, 35, 35), 0);
        MazeCalendar open = Checks.with(Checks.ALL_OPEN);
        due("from corner to corner", open.way(0, 0, 35), 10);
        due("from the other corner", open.way(0, 30, 5), 10);
        MazeCalendar shut = Checks.with(Checks.ALL_SHUT);
        due("none", shut.way(0, 0, 1), NONE);
        due("itself though none is open", shut.way(0, 0, 0), 0);
        due("the fewest of two ways round", Checks.with("rrd;d.d;rr.").way(0, 0, 8), 4);
        due("one day", Checks.with(".").way(99, 0, 0), 0);
    }

    private static void wayRefusals() {
        Checks.sentence("WAY; NONE. BAD");
        MazeCalendar x = Checks.with(Checks.CROSS);
        due("the last day", x.way(99, 8, 8), 0);
        for (int step : NO_STEP) due("step " + step, x.way(step, 0, 0), BAD);
        for (int day : NO_DAY) {
            due("from " + day, x.way(0, day, 0), BAD);
            due("to " + day, x.way(0, 0, day), BAD);
            due("both " + day, x.way(0, day, day), BAD);
        }
        due("no days", new MazeCalendar().way(0, 0, 0), BAD);
    }

    private static void throughFewest() {
        Checks.sentence("THROUGH: the fewest STEPS from a DAY by a second one to a third; NONE");
        MazeCalendar path = Checks.with(Checks.PATH);
        due("the longest", path.through(0, 0, 30, 0), 70);
        due("the other end", path.through(99, 30, 0, 30), 70);
        due("all the same", path.through(0, 7, 7, 7), 0);
        due("by where it begins", path.through(0, 0, 0, 30), 35);
        due("by where it ends", path.through(0, 0, 30, 30), 35);
        MazeCalendar x = Checks.with(Checks.CROSS);
        due("none to the second", x.through(0, 1, 0, 1), NONE);
        due("none to the third", x.through(0, 1, 4, 8), NONE);
        due("none from the first", x.through(0, 8, 4, 1), NONE);
        due("alone all the same", x.through(0, 8, 8, 8), 0);
    }

    private static void throughRefusals() {
        Checks.sentence("THROUGH; NONE. BAD");
        MazeCalendar x = Checks.with(Checks.CROSS);
        for (int step : NO_STEP) due("step " + step, x.through(step, 0, 0, 0), BAD);
        for (int day : NO_DAY) {
            due("from " + day, x.through(0, day, 0, 0), BAD);
            due("by " + day, x.through(0, 0, day, 0), BAD);
            due("to " + day, x.through(0, 0, 0, day), BAD);
            due("to " + day + ", though there is no way", x.through(0, 0, 8, day), BAD);
        }
        due("no days", new MazeCalendar().through(0, 0, 0, 0), BAD);
    }

    private static void joinedWithItself() {
        Checks.sentence("JOINED: how many DAYS there are to which there is a WAY (itself, too). BAD");
        due("itself alone", Checks.with(".").joined(0, 0), 1);
        due("itself alone of 36", Checks.with(Checks.ALL_SHUT).joined(99, 35), 1);
        due("all", Checks.with(Checks.ALL_OPEN).joined(0, 0), 36);
        due("all on one path", Checks.with(Checks.PATH).joined(0, 30), 36);
        due("all on one path from its other end", Checks.with(Checks.PATH).joined(0, 0), 36);
        MazeCalendar x = Checks.with(Checks.CROSS);
        due("five", x.joined(0, 7), 5);
        due("one", x.joined(0, 8), 1);
        for (int step : NO_STEP) due("step " + step, x.joined(step, 0), BAD);
        for (int day : NO_DAY) due("day " + day, x.joined(0, day), BAD);
        due("no days", new MazeCalendar().joined(0, 0), BAD);
    }

    private static void hearBeside() {
        Checks.sentence("HEAR: two DAYS are beside each other, or one under the other, and it is not open between");
        MazeCalendar x = Checks.with("...;...;...");
        for (int a = 0; a < 9; a++) {
            for (int b = 0; b < 9; b++) {
                int apart = Math.abs(a / 3 - b / 3) + Math.abs(a % 3 - b % 3);
                due("hear of " + a + " and " + b, x.hear(0, a, b), apart == 1 ? 1 : 0);
            }
        }
        MazeCalendar open = Checks.with("bbb;bbb;bbb");
        for (int a = 0; a < 9; a++) {
            for (int b = 0; b < 9; b++) due("open: " + a + " and " + b, open.hear(0, a, b), 0);
        }
        MazeCalendar row = Checks.with("......");
        due("in one row", row.hear(0, 4, 5), 1);
        due("two apart in one row", row.hear(0, 3, 5), 0);
        MazeCalendar column = Checks.with(".;.;.;.;.;.");
        due("in one column", column.hear(0, 5, 4), 1);
        due("two apart in one column", column.hear(0, 3, 5), 0);
        MazeCalendar whole = Checks.with(Checks.ALL_SHUT);
        due("the last two", whole.hear(99, 34, 35), 1);
        due("the last two rows", whole.hear(99, 29, 35), 1);
        due("the end of a row and the next", whole.hear(0, 29, 30), 0);
    }

    private static void hearRefusals() {
        Checks.sentence("HEAR: 1, 0. BAD");
        MazeCalendar x = Checks.with(Checks.CROSS);
        for (int step : NO_STEP) due("step " + step, x.hear(step, 0, 1), BAD);
        for (int day : NO_DAY) {
            due("a is " + day, x.hear(0, day, 8), BAD);
            due("b is " + day, x.hear(0, 8, day), BAD);
            due("both are " + day, x.hear(0, day, day), BAD);
        }
        due("itself", x.hear(0, 8, 8), 0);
        due("no days", new MazeCalendar().hear(0, 0, 0), BAD);
    }

    private static void cutFewest() {
        Checks.sentence("CUT: the fewest places (0 to 3) at which it must be open, too: how many; NONE: more than that");
        MazeCalendar row = Checks.with("......");
        int[] want = {0, 1, 2, 3, NONE, NONE};
        for (int d = 0; d < 6; d++) {
            due("0 to " + d, row.cut(0, 0, d), want[d]);
            due(d + " to 0", row.cut(99, d, 0), want[d]);
        }
        MazeCalendar column = Checks.with(".;.;.;.;.;.");
        for (int d = 0; d < 6; d++) due("down to " + d, column.cut(0, 0, d), want[d]);
        MazeCalendar whole = Checks.with(Checks.ALL_SHUT);
        due("three askew", whole.cut(0, 35, 27), 3);
        due("four askew", whole.cut(0, 35, 26), NONE);
        due("from corner to corner", whole.cut(0, 0, 35), NONE);
        due("not across the edge", whole.cut(0, 5, 6), NONE);
        due("joined", Checks.with(Checks.ALL_OPEN).cut(0, 0, 35), 0);
        due("itself", whole.cut(0, 7, 7), 0);
        // Five rows, each open along itself: each needs one place to the next.
        MazeCalendar rows = Checks.with("r.;r.;r.;r.;r.");
        int[] between = {0, 1, 2, 3, NONE};
        for (int r = 0; r < 5; r++) due("row 0 to row " + r, rows.cut(0, 0, 2 * r + 1), between[r]);
        rows.gap(7, 3, 1);
        due("with a gap", rows.cut(7, 0, 9), 3);
        due("ahead of it", rows.cut(6, 0, 9), NONE);
    }

    private static void cutRefusals() {
        Checks.sentence("CUT; NONE. BAD");
        MazeCalendar x = Checks.with(Checks.CROSS);
        for (int step : NO_STEP) due("step " + step, x.cut(step, 0, 1), BAD);
        for (int day : NO_DAY) {
            due("from " + day, x.cut(0, day, 8), BAD);
            due("to " + day, x.cut(0, 8, day), BAD);
            due("both " + day, x.cut(0, day, day), BAD);
        }
        due("no days", new MazeCalendar().cut(0, 0, 0), BAD);
    }

    /** How many guards, then those that there are; NONE for each that there is not. */
    private static void guards(String maze, int from, int to, int... want) {
        MazeCalendar x = Checks.with(maze);
        String call = maze + " from " + from + " to " + to;
        due("guards of " + call, x.guard(0, from, to, NONE), want[0]);
        due("the first of " + call, x.guard(0, from, to, 0), want.length > 1 ? want[1] : NONE);
        due("the second of " + call, x.guard(0, from, to, 1), want.length > 2 ? want[2] : NONE);
    }

    private static void guardFewest() {
        Checks.sentence("GUARD: the fewest DAYS (0 to 2) so that there is no WAY between two DAYS; NONE");
        guards("..", 0, 1, 0);
        guards("rr..", 0, 3, 0);
        guards("rr.", 0, 2, 1, 1);
        guards("bd;r.", 0, 3, 2, 1, 2);
        guards("bbb;bbb;bbb", 1, 7, NONE);
        guards("bbb;bbb;bbb", 0, 8, 2, 1, 3);
        guards(Checks.ALL_OPEN, 0, 35, 2, 1, 6);
        guards(Checks.ALL_OPEN, 7, 28, NONE);
        guards(Checks.ALL_OPEN, 30, 5, 2, 4, 11);
        guards(Checks.PATH, 0, 30, 1, 1);
        guards(Checks.PATH, 30, 0, 1, 1);
    }

    private static void guardUnlikeBoth() {
        Checks.sentence("GUARD: DAYS, unlike both");
        guards("r.", 0, 1, NONE);
        guards("rr.", 0, 1, NONE);
        guards("rr.", 2, 1, NONE);
        guards("rrr.", 0, 2, 1, 1);
        guards("rrr.", 1, 3, 1, 2);
        guards("rrr.", 3, 0, 1, 1);
        guards("bd;r.", 1, 2, 2, 0, 3);
    }

    private static void guardLeastRow() {
        Checks.sentence("of like ones the least row (each more than the one ahead)");
        guards("rrrrr.", 0, 5, 1, 1);
        guards("rrrrr.", 5, 0, 1, 1);
        guards("rrrrr.", 5, 2, 1, 3);
        guards("b.;..", 1, 2, 1, 0);
        guards("b.;..", 2, 1, 1, 0);
        guards(".d;r.", 1, 2, 1, 3);
        // Two paths from 0 to 8, each of three days between.
        guards("brd;d.d;rr.", 0, 8, 2, 1, 3);
        guards("brd;d.d;rr.", 8, 0, 2, 1, 3);
        guards("brd;d.d;rr.", 2, 6, 2, 0, 5);
        guards("bbb;bbb;...", 8, 0, 1, 5);
        guards("bbb;bbb;bbb", 8, 0, 2, 1, 3);
        guards("bbbb;bbbb;bbbb", 11, 0, 2, 1, 4);
    }

    private static void guardRefusals() {
        Checks.sentence("GUARD: how many (i = NONE), the i-th (0, 1; NONE); NONE. BAD: also one DAY twice");
        MazeCalendar x = Checks.with(Checks.CROSS);
        due("none to part", x.guard(0, 0, 8, NONE), 0);
        due("the first of none", x.guard(0, 0, 8, 0), NONE);
        due("the second of none", x.guard(0, 0, 8, 1), NONE);
        due("one", x.guard(99, 1, 7, NONE), 1);
        due("the second of one", x.guard(99, 1, 7, 1), NONE);
        for (int i : new int[] {-2, 2, Checks.LEAST, Checks.MOST}) {
            due("i " + i, x.guard(0, 1, 7, i), BAD);
            due("i " + i + " of none to part", x.guard(0, 0, 8, i), BAD);
            due("i " + i + " where none can part", x.guard(0, 1, 4, i), BAD);
        }
        for (int d = 0; d < 9; d++) due("day " + d + " twice", x.guard(0, d, d, NONE), BAD);
        due("a day twice, the first", x.guard(0, 4, 4, 0), BAD);
        for (int step : NO_STEP) due("step " + step, x.guard(step, 1, 7, NONE), BAD);
        for (int day : NO_DAY) {
            due("from " + day, x.guard(0, day, 8, NONE), BAD);
            due("to " + day, x.guard(0, 8, day, NONE), BAD);
        }
        due("no days", new MazeCalendar().guard(0, 0, 1, NONE), BAD);
        due("one day", Checks.with(".").guard(0, 0, 1, NONE), BAD);
    }

    public static void main(String[] args) {
        openInAToldStep();
        wayFewest();
        wayRefusals();
        throughFewest();
        throughRefusals();
        joinedWithItself();
        hearBeside();
        hearRefusals();
        cutFewest();
        cutRefusals();
        guardFewest();
        guardUnlikeBoth();
        guardLeastRow();
        guardRefusals();
        Checks.end();
    }
}
