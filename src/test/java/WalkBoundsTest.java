/** The boundary cases of walks: how a walker goes on, and promises 12 to 16. */
public final class WalkBoundsTest {
    private static final int NONE = Checks.NONE, BAD = Checks.BAD;
    private static final int[] NO_STEPS = {-1, 100, Checks.LEAST, Checks.MOST};
    private static final int[] NO_WHAT = {-1, 2, Checks.LEAST, Checks.MOST};

    private static void due(String call, long got, long want) {
        Checks.due(call, got, want);
    }

    private static void nowhere() {
        Checks.sentence("a WALKER (on a DAY that there is; else it is NOWHERE)");
        MazeCalendar x = Checks.with("bb;bb", "03nl;04nl;39nl");
        due("the last day", x.on(0, 0, 0), 3);
        due("the first that there is not", x.on(1, 0, 0), NONE);
        due("its heading", x.on(1, 0, 1), NONE);
        due("day 39", x.on(2, 99, 0), NONE);
        due("no days at all", Checks.with("", "00nl").on(0, 0, 0), NONE);
        MazeCalendar whole = Checks.with(Checks.ALL_OPEN, "35nl;36nl");
        due("day 35", whole.on(0, 0, 0), 35);
        due("day 36", whole.on(1, 0, 0), NONE);
        x.wipe(0);
        Checks.type(x, 0, "..;..;..");
        due("it is there when there is its day", x.on(1, 0, 0), 4);
    }

    /** On the middle of the cross, with some ways closed, which way is gone first. */
    private static void goes(int heading, int hand, int closed, int want) {
        MazeCalendar x = Checks.with(Checks.CROSS, "04" + "nesw".charAt(heading) + "lra".charAt(hand));
        if ((closed & 1) != 0) x.hedge(0, 1, 1);
        if ((closed & 2) != 0) x.hedge(0, 4, 0);
        if ((closed & 4) != 0) x.hedge(0, 4, 1);
        if ((closed & 8) != 0) x.hedge(0, 3, 0);
        String call = "heading " + heading + ", hand " + hand + ", closed " + closed;
        due(call, x.on(0, 1, 1), want);
        int[] days = {1, 5, 7, 3};
        due(call + ", day", x.on(0, 1, 0), closed == 15 ? 4 : days[want]);
    }

    private static void handsTryInTurn() {
        Checks.sentence("l: left, straight, right, back; r: right, straight, left, back; a: straight, left, right, back");
        int[][] turns = {{3, 0, 1, 2}, {1, 0, 3, 2}, {0, 3, 1, 2}};
        for (int heading = 0; heading < 4; heading++) {
            for (int hand = 0; hand < 3; hand++) {
                int closed = 0;
                for (int turn : turns[hand]) {
                    int way = (heading + turn) % 4;
                    goes(heading, hand, closed, way);
                    closed |= 1 << way;
                }
                goes(heading, hand, 15, heading);
            }
        }
    }

    private static void staysAsItIs() {
        Checks.sentence("if none is, it stays as it is");
        for (int heading = 0; heading < 4; heading++) {
            MazeCalendar x = Checks.with(".", "00" + "nesw".charAt(heading) + "l");
            for (int n : new int[] {0, 1, 99}) {
                due("its day behind " + n, x.on(0, n, 0), 0);
                due("its heading behind " + n, x.on(0, n, 1), heading);
            }
        }
    }

    private static void asInThatStep() {
        Checks.sentence("the first that is open (as it is in that STEP), in each STEP from 0 on");
        MazeCalendar x = Checks.with("..", "00el");
        x.gap(0, 0, 0);
        x.hedge(1, 0, 0);
        due("behind 0", x.on(0, 0, 0), 0);
        due("open in step 0: behind 1", x.on(0, 1, 0), 1);
        due("closed in step 1: behind 2", x.on(0, 2, 0), 1);
        x.gap(98, 0, 0);
        due("behind 98", x.on(0, 98, 0), 1);
        due("open in step 98: behind 99", x.on(0, 99, 0), 0);
        x.back(1);
        x.gap(99, 0, 0);
        due("what opens in step 99 is not gone behind 99", x.on(0, 99, 0), 1);
    }

    private static void onOfSteps() {
        Checks.sentence("On which DAY it is (what = 0), which way it HEADS (1); NONE. BAD (STEPS 0 to 99)");
        MazeCalendar x = Checks.with(Checks.PATH, "00el;36nl");
        due("behind 0", x.on(0, 0, 0), 0);
        due("behind 35, at the end", x.on(0, 35, 0), 30);
        due("behind 70, back again", x.on(0, 70, 0), 0);
        due("behind 99", x.on(0, 99, 0), 29);
        due("its heading", x.on(0, 99, 1), 1);
        for (int w = 0; w < 2; w++) {
            for (int n : NO_STEPS) due("steps " + n + " of " + w, x.on(w, n, 0), BAD);
            for (int what : NO_WHAT) due("what " + what + " of " + w, x.on(w, 0, what), BAD);
        }
        for (int w : new int[] {-1, 2, 8, Checks.LEAST, Checks.MOST}) due("walker " + w, x.on(w, 0, 0), BAD);
        due("the eighth walker", Checks.with(Checks.ALL_OPEN, Checks.EIGHT).on(7, 0, 0), NONE);
        due("the seventh", Checks.with(Checks.ALL_OPEN, Checks.EIGHT).on(6, 0, 0), 14);
        due("a ninth", Checks.with(Checks.ALL_OPEN, Checks.EIGHT).on(8, 0, 0), BAD);
    }

    private static void comesFirst() {
        Checks.sentence("COMES: behind how many STEPS it is there first (to 99); NONE");
        MazeCalendar x = Checks.with("...", "01el");
        x.gap(98, 1, 0);
        x.gap(98, 0, 0);
        due("where it begins", x.comes(0, 1), 0);
        due("behind 99", x.comes(0, 2), 99);
        due("not behind 99", x.comes(0, 0), NONE);
        x.back(1);
        x.back(1);
        x.gap(97, 1, 0);
        x.gap(98, 0, 0);
        due("behind 98", x.comes(0, 2), 98);
        due("first, not last", x.comes(0, 1), 0);
        due("it turned back", x.on(0, 99, 0), 1);
        MazeCalendar late = Checks.with("..", "00el");
        late.gap(99, 0, 0);
        due("what opens in step 99 is not gone behind 99", late.comes(0, 1), NONE);
        MazeCalendar path = Checks.with(Checks.PATH, "00el");
        due("the longest way", path.comes(0, 30), 35);
    }

    private static void comesRefusals() {
        Checks.sentence("COMES (a DAY that there is); NONE. BAD");
        MazeCalendar x = Checks.with("..;..", "00nl;04nl");
        due("the last day", x.comes(0, 3), NONE);
        due("nowhere", x.comes(1, 0), NONE);
        for (int day : new int[] {-1, 4, 35, 36, Checks.LEAST, Checks.MOST}) {
            due("day " + day, x.comes(0, day), BAD);
            due("day " + day + ", nowhere", x.comes(1, day), BAD);
        }
        for (int w : new int[] {-1, 2, Checks.LEAST, Checks.MOST}) due("walker " + w, x.comes(w, 0), BAD);
        due("the day of one nowhere, when there are none", Checks.with("", "00nl").comes(0, 0), BAD);
    }

    private static void meetFirst() {
        Checks.sentence("MEET: behind how many STEPS both are first on one DAY (to 99); NONE");
        MazeCalendar x = Checks.with("...;...", "00el;02wl;02er");
        due("at once", x.meet(1, 2), 0);
        due("never", x.meet(0, 1), NONE);
        x.gap(98, 0, 0);
        x.gap(98, 1, 0);
        due("behind 99", x.meet(0, 1), 99);
        due("the other way round", x.meet(1, 0), 99);
        x.back(1);
        x.back(1);
        x.gap(99, 0, 0);
        x.gap(99, 1, 0);
        due("not behind 100", x.meet(0, 1), NONE);
        MazeCalendar past = Checks.with("r.", "00el;01wl");
        due("they pass each other", past.meet(0, 1), NONE);
    }

    private static void meetRefusals() {
        Checks.sentence("MEET; NONE. BAD: also one twice");
        MazeCalendar x = Checks.with("..", "00nl;01nl;02nl;02nl");
        for (int w = 0; w < 4; w++) due("walker " + w + " twice", x.meet(w, w), BAD);
        due("one nowhere", x.meet(0, 2), NONE);
        due("the other nowhere", x.meet(3, 1), NONE);
        due("both nowhere, on one day as told", x.meet(2, 3), NONE);
        for (int w : new int[] {-1, 4, 8, Checks.LEAST, Checks.MOST}) {
            due("a is " + w, x.meet(w, 0), BAD);
            due("b is " + w, x.meet(0, w), BAD);
            due("b is " + w + ", a nowhere", x.meet(2, w), BAD);
            due("both are " + w, x.meet(w, w), BAD);
        }
        MazeCalendar eight = Checks.with(Checks.ALL_SHUT, Checks.EIGHT);
        due("the first and the eighth", eight.meet(0, 7), NONE);
        due("a ninth", eight.meet(0, 8), BAD);
    }

    private static void roundForEver() {
        Checks.sentence("ROUND: in how many STEPS it is then each time as it was (DAY and HEADING; 1 also where it stays)");
        MazeCalendar x = Checks.with(Checks.PATH, "00el;00sr;36nl");
        due("there and back on 36 days", x.round(0), 70);
        due("by the other hand", x.round(1), 70);
        due("it stays", Checks.with(".", "00nl").round(0), 1);
        due("two days", Checks.with("r.", "00el").round(0), 2);
        due("a ring of four", Checks.with("bd;r.", "00el").round(0), 4);
        // Straight on in the middle row of days: to and fro, the day alike but not the heading.
        due("day and heading", Checks.with("rr.", "01ea").round(0), 4);
        due("far from where it goes round", Checks.with("rrbd;..r.", "00ea").round(0), Checks.with("rrbd;..r.", "02ea").round(0));
    }

    private static void roundFromStep99() {
        Checks.sentence("as from behind 99 STEPS on all is open as in STEP 99 for good");
        MazeCalendar x = Checks.with("r.", "00el");
        due("to and fro", x.round(0), 2);
        x.hedge(99, 0, 0);
        due("closed in step 99", x.round(0), 1);
        x.gap(99, 0, 0);
        due("open in step 99", x.round(0), 2);
        MazeCalendar late = Checks.with("...", "00el");
        late.gap(99, 0, 0);
        due("gone first behind 99", late.round(0), 2);
        MazeCalendar once = Checks.with("...", "00el");
        once.gap(98, 0, 0);
        once.hedge(99, 0, 0);
        once.gap(99, 1, 0);
        due("by where it is behind 99", once.round(0), 2);
        MazeCalendar early = Checks.with("r..", "00el");
        early.hedge(98, 0, 0);
        due("closed from 98 on", early.round(0), 1);
    }

    private static void roundRefusals() {
        Checks.sentence("ROUND; NONE (NOWHERE). BAD");
        MazeCalendar x = Checks.with("..", "01nl;02nl");
        due("the last day", x.round(0), 1);
        due("nowhere", x.round(1), NONE);
        for (int w : new int[] {-1, 2, Checks.LEAST, Checks.MOST}) due("walker " + w, x.round(w), BAD);
        due("no walkers", Checks.with("..").round(0), BAD);
    }

    private static void trodUpToSteps() {
        Checks.sentence("TROD: behind some number of STEPS up to a told one (STEPS 0 to 99)");
        MazeCalendar x = Checks.with("...", "00el");
        x.gap(0, 0, 0);
        x.gap(98, 1, 0);
        due("up to 0: where it begins", x.trod(0, 0), 1);
        due("up to 1", x.trod(1, 0), 3);
        due("up to 98", x.trod(98, 0), 3);
        MazeCalendar y = Checks.with("..", "00el");
        y.gap(98, 0, 0);
        due("up to 98", y.trod(98, 0), 1);
        due("up to 99", y.trod(99, 0), 3);
        y.back(1);
        y.gap(99, 0, 0);
        due("not behind 100", y.trod(99, 0), 1);
        for (int n : NO_STEPS) due("steps " + n, x.trod(n, 0), BAD);
    }

    private static void trodAsBits() {
        Checks.sentence("TROD: as two numbers of bits (DAYS 0 to 17, 18 to 35)");
        MazeCalendar x = Checks.with(Checks.ALL_SHUT, "00nl;17nl;18nl;35nl;36nl;39nl");
        due("days 0 and 17", x.trod(0, 0), 1 | 1 << 17);
        due("days 18 and 35", x.trod(0, 1), 1 | 1 << 17);
        for (int what : NO_WHAT) due("what " + what, x.trod(0, what), BAD);
        MazeCalendar all = Checks.with(Checks.PATH, "00el;00sr");
        due("all of the first", all.trod(35, 0), (1 << 18) - 1);
        due("all of the second", all.trod(35, 1), (1 << 18) - 1);
        due("all but the last", all.trod(34, 1), (1 << 18) - 1 - (1 << 12));
        due("nobody", Checks.with(Checks.ALL_OPEN).trod(99, 0), 0);
        due("nobody and no days", new MazeCalendar().trod(99, 1), 0);
        due("somebody nowhere", Checks.with("", "00nl").trod(99, 0), 0);
        due("what 2 of nobody", new MazeCalendar().trod(0, 2), BAD);
        due("steps 100 of nobody", new MazeCalendar().trod(100, 0), BAD);
    }

    public static void main(String[] args) {
        nowhere();
        handsTryInTurn();
        staysAsItIs();
        asInThatStep();
        onOfSteps();
        comesFirst();
        comesRefusals();
        meetFirst();
        meetRefusals();
        roundForEver();
        roundFromStep99();
        roundRefusals();
        trodUpToSteps();
        trodAsBits();
        Checks.end();
    }
}
