import java.util.Arrays;

/** A calendar laid out as a maze of hedges: who walks it, who meets, who goes round for ever. */
public final class MazeCalendar {
    public static final int NONE = -1, BAD = -2, NOT = -3, FULL = -4;

    private static final int LEAST_INT = 0x80000000;
    private static final long LEAST_LONG = 0x8000000000000000L;

    private static final int MAZE_BYTES = 41, WALKER_BYTES = 39;
    private static final int MOST_ROWS = 6, MOST_COLUMNS = 6, MOST_DAYS = 36;
    private static final int MOST_WALKERS = 8, WALKER_SIGNS = 5;
    private static final int MOST_PLACES = 8, MOST_SEEN = 8;
    private static final int MOST_SHEETS = 4, MOST_ITEMS = 60;
    private static final int STEPS = 100, LAST_STEP = 99;
    private static final int HANDS = 3, WAYS = 4, FORMS = 3;
    private static final int MOST_GUARDS = 2, MOST_CUT = 3, MOST_STRAY = 8;

    // A walker's DAY and HEADING are kept as one number, 4 times the DAY and the way.
    private static final int MOST_STATES = 144;

    // One DAY has 1 to 4 ways, so every chance of one STEP is a whole number of twelfths.
    private static final long TWELVE = 12L;

    private static final int NULL = 1, INDEX = 2, CAST = 3, STORE = 4, SIZE = 5;
    private static final int FINDING_BASE = -10;

    // For each HAND the turns that it tries: 0 straight, 1 right, 2 back, 3 left.
    private static final int[] TURNS = {3, 0, 1, 2, 1, 0, 3, 2, 0, 3, 1, 2};

    /** A text as it was typed: its bytes stay even while it has a FAULT, for more may mend it. */
    private static final class Text {
        private final int[] bytes;
        private int length;

        Text(int limit) {
            bytes = new int[Math.max(limit, 0)];
            length = 0;
        }

        boolean isFull() {
            return length >= bytes.length;
        }

        void add(int b) {
            if (!isFull()) {
                bytes[length] = b;
                length++;
            }
        }

        int at(int place) {
            return place >= 0 && place < length ? bytes[place] : NONE;
        }
    }

    /** HEDGES or GAPS, in the order in which they came, so that the last one can be undone. */
    private static final class Places {
        private final int[] steps = new int[MOST_PLACES];
        private final int[] days = new int[MOST_PLACES];
        private final int[] sides = new int[MOST_PLACES];
        private int size;

        boolean isFull() {
            return size >= MOST_PLACES;
        }

        void add(int step, int day, int side) {
            if (!isFull()) {
                steps[size] = step;
                days[size] = day;
                sides[size] = side;
                size++;
            }
        }

        /** The places on one side that change just in this STEP, as a set of DAYS. */
        long changed(int step, int side) {
            long set = 0L;
            for (int k = 0; k < size; k++) {
                if (steps[k] == step && sides[k] == side) {
                    set |= 1L << days[k];
                }
            }
            return set;
        }
    }

    /**
     * The DAYS and what is open between them in each STEP. Sets of DAYS are bits of a long; a set
     * of places holds the DAY on whose right, or under which, each place is.
     */
    private static final class Maze {
        private final long[] right = new long[STEPS];
        private final long[] down = new long[STEPS];
        private int columns;
        private int rows;
        private int fault = NONE;
        private long toldRight;
        private long toldDown;
        private long rightPlaces;
        private long downPlaces;

        int days() {
            return rows * columns;
        }

        boolean hasDay(int day) {
            return day >= 0 && day < rows * columns;
        }

        void take(Text text) {
            clear();
            fault = text.length == 0 ? NONE : scan(text);
            if (fault != NONE) {
                clear();
            }
            findPlaces();
        }

        private void clear() {
            columns = 0;
            rows = 0;
            toldRight = 0L;
            toldDown = 0L;
        }

        private int scan(Text text) {
            int row = 0;
            int column = 0;
            int day = 0;
            for (int place = 0; place < text.length; place++) {
                int b = text.at(place);
                if (row >= MOST_ROWS) {
                    return place;
                }
                if (b == ';') {
                    if (column < leastDays(row)) {
                        return place;
                    }
                    columns = column;
                    row++;
                    column = 0;
                } else {
                    if (!isDaySign(b) || column >= mostDays(row)) {
                        return place;
                    }
                    tell(b, day);
                    column++;
                    day++;
                }
            }
            if (column < leastDays(row)) {
                return text.length;
            }
            columns = column;
            rows = row + 1;
            return NONE;
        }

        private int leastDays(int row) {
            return row == 0 ? 1 : columns;
        }

        private int mostDays(int row) {
            return row == 0 ? MOST_COLUMNS : columns;
        }

        private static boolean isDaySign(int b) {
            return b == '.' || b == 'r' || b == 'd' || b == 'b';
        }

        private void tell(int b, int day) {
            if (b == 'r' || b == 'b') {
                toldRight |= 1L << day;
            }
            if (b == 'd' || b == 'b') {
                toldDown |= 1L << day;
            }
        }

        private void findPlaces() {
            rightPlaces = 0L;
            downPlaces = 0L;
            for (int row = 0; row < rows; row++) {
                for (int column = 0; column < columns; column++) {
                    long day = 1L << (row * columns + column);
                    if (column + 1 < columns) {
                        rightPlaces |= day;
                    }
                    if (row + 1 < rows) {
                        downPlaces |= day;
                    }
                }
            }
        }

        /** What is open, STEP by STEP; the later change goes over the earlier one. */
        void layOut(Places hedges, Places gaps) {
            long nowRight = toldRight & rightPlaces;
            long nowDown = toldDown & downPlaces;
            for (int step = 0; step < STEPS; step++) {
                nowRight &= ~hedges.changed(step, 0);
                nowDown &= ~hedges.changed(step, 1);
                // The GAPS come behind the HEDGES, for of like STEPS a GAP counts.
                nowRight |= gaps.changed(step, 0) & rightPlaces;
                nowDown |= gaps.changed(step, 1) & downPlaces;
                right[step] = nowRight;
                down[step] = nowDown;
            }
        }

        int openWays(int step, int day) {
            if (!isStep(step) || !hasDay(day)) {
                return 0;
            }
            int ways = 0;
            if (day >= columns && has(down[step], day - columns)) {
                ways |= 1;
            }
            if (has(right[step], day)) {
                ways |= 2;
            }
            if (has(down[step], day)) {
                ways |= 4;
            }
            if (day >= 1 && has(right[step], day - 1)) {
                ways |= 8;
            }
            return ways;
        }

        int beside(int day, int way) {
            switch (way) {
                case 0:
                    return day - columns;
                case 1:
                    return day + 1;
                case 2:
                    return day + columns;
                default:
                    return day - 1;
            }
        }

        int next(int state, int hand, int step) {
            if (!isHand(hand)) {
                return state;
            }
            int day = state / WAYS;
            int ways = openWays(step, day);
            for (int k = 0; k < WAYS; k++) {
                int way = (state + TURNS[hand * WAYS + k]) & 3;
                if ((ways >> way & 1) != 0) {
                    return WAYS * beside(day, way) + way;
                }
            }
            return state;
        }

        /** Whether it is open otherwise than in the STEP ahead (the first has none ahead). */
        boolean isChanged(int step) {
            if (step < 1 || step >= STEPS) {
                return true;
            }
            return right[step] != right[step - 1] || down[step] != down[step - 1];
        }

        int walk(int state, int hand, int steps) {
            int now = state;
            for (int step = 0; step < steps; step++) {
                now = next(now, hand, step);
            }
            return now;
        }

        /** All DAYS that are at most one STEP away from some of a set. */
        long spread(long set, int step) {
            return isStep(step) ? across(set, right[step], down[step]) : set;
        }

        /** The same, as if it was open everywhere. */
        long spreadOverHedges(long set) {
            return across(set, rightPlaces, downPlaces);
        }

        private long across(long set, long rightOpen, long downOpen) {
            long sideways = ((set & rightOpen) << 1) | ((set >>> 1) & rightOpen);
            long upAndDown = ((set & downOpen) << columns) | ((set >>> columns) & downOpen);
            return set | sideways | upAndDown;
        }

        /** All DAYS to which there is a way from some of a set through none that is barred. */
        long reach(long set, int step, long barred) {
            long reached = set & ~barred;
            if (!isStep(step)) {
                return reached;
            }
            for (int k = 0; k < MOST_DAYS; k++) {
                long more = across(reached, right[step], down[step]) & ~barred;
                if (more == reached) {
                    break;
                }
                reached = more;
            }
            return reached;
        }

        int distance(int step, int from, int to) {
            long reached = 1L << from;
            for (int steps = 0; steps < MOST_DAYS; steps++) {
                if (has(reached, to)) {
                    return steps;
                }
                reached = spread(reached, step);
            }
            return NONE;
        }

        boolean isParted(int step, int from, int to, long barred) {
            return !has(reach(1L << from, step, barred), to);
        }
    }

    /** WALKERS as their text tells them. */
    private static final class Walkers {
        private final int[] days = new int[MOST_WALKERS];
        private final int[] headings = new int[MOST_WALKERS];
        private final int[] hands = new int[MOST_WALKERS];
        private int size;
        private int fault = NONE;

        void take(Text text) {
            fault = text.length == 0 ? NONE : scan(text);
            size = fault == NONE ? (text.length + 1) / WALKER_SIGNS : 0;
        }

        private int scan(Text text) {
            for (int place = 0; place < text.length; place++) {
                int walker = place / WALKER_SIGNS;
                if (walker >= MOST_WALKERS || !tell(walker, place % WALKER_SIGNS, text.at(place))) {
                    return place;
                }
            }
            return text.length % WALKER_SIGNS == WALKER_SIGNS - 1 ? NONE : text.length;
        }

        private boolean tell(int walker, int sign, int b) {
            switch (sign) {
                case 0:
                    days[walker] = 10 * (b - '0');
                    return b >= '0' && b <= '3';
                case 1:
                    days[walker] += b - '0';
                    return b >= '0' && b <= '9';
                case 2:
                    headings[walker] = headingOf(b);
                    return headings[walker] != NONE;
                case 3:
                    hands[walker] = handOf(b);
                    return hands[walker] != NONE;
                default:
                    return b == ';';
            }
        }

        private static int headingOf(int b) {
            switch (b) {
                case 'n':
                    return 0;
                case 'e':
                    return 1;
                case 's':
                    return 2;
                case 'w':
                    return 3;
                default:
                    return NONE;
            }
        }

        private static int handOf(int b) {
            switch (b) {
                case 'l':
                    return 0;
                case 'r':
                    return 1;
                case 'a':
                    return 2;
                default:
                    return NONE;
            }
        }
    }

    /** What was SEEN of a lost one, by STEPS. */
    private static final class Sightings {
        // No DAY has this number, so nobody can have been on it.
        private static final int CLASH = 36;

        private final int[] days = new int[STEPS];
        private int size;
        private int last;

        Sightings() {
            clear();
        }

        private void clear() {
            Arrays.fill(days, NONE);
            size = 0;
            last = NONE;
        }

        boolean isFull() {
            return size >= MOST_SEEN;
        }

        void add(int steps, int day) {
            if (isFull() || !isStep(steps)) {
                return;
            }
            days[steps] = days[steps] == NONE || days[steps] == day ? day : CLASH;
            size++;
            last = Math.max(last, steps);
        }

        /** The DAY on which it was SEEN then; NONE: it was not. */
        int dayAt(int steps) {
            return isStep(steps) ? days[steps] : NONE;
        }
    }

    /** All starts that a lost one may have had, walked side by side by one HAND. */
    private static final class Lost {
        private final int[] starts = new int[MOST_STATES];
        private final int[] states = new int[MOST_STATES];
        // Where each state leads to as long as nothing changes in the maze; NONE: not asked yet.
        private final int[] known = new int[MOST_STATES];
        private int size;

        void beginAnywhere(int days) {
            size = Math.min(WAYS * days, MOST_STATES);
            for (int k = 0; k < size; k++) {
                starts[k] = k;
            }
            beginAgain();
        }

        void beginAgain() {
            for (int k = 0; k < size; k++) {
                states[k] = starts[k];
            }
        }

        void keepThoseOn(int day) {
            int kept = 0;
            for (int k = 0; k < size; k++) {
                if (states[k] / WAYS == day) {
                    starts[kept] = starts[k];
                    states[kept] = states[k];
                    kept++;
                }
            }
            size = kept;
        }

        void goOn(Maze maze, int hand, int step) {
            if (maze.isChanged(step)) {
                Arrays.fill(known, NONE);
            }
            for (int k = 0; k < size; k++) {
                int state = states[k];
                if (state >= 0 && state < MOST_STATES) {
                    if (known[state] == NONE) {
                        known[state] = maze.next(state, hand, step);
                    }
                    states[k] = known[state];
                }
            }
        }
    }

    /** A row of items of one FORM, each kept as the int that it reads as. */
    private static final class Sheet {
        private final int[] items = new int[MOST_ITEMS];
        private int form = NONE;
        private int size;

        boolean isLost() {
            return form == NONE;
        }

        boolean holds(int i) {
            return i >= 0 && i < size;
        }

        boolean holdsFrom(int i, int n) {
            return i >= 0 && n >= 0 && i <= size - n;
        }

        void renew(int newForm, int n) {
            Arrays.fill(items, 0);
            form = newForm;
            size = n;
        }

        void setItem(int i, int v) {
            if (!holds(i)) {
                return;
            }
            switch (form) {
                case 0:
                    items[i] = (byte) v;
                    break;
                case 1:
                    items[i] = (short) v;
                    break;
                default:
                    items[i] = v;
                    break;
            }
        }
    }

    private final Text mazeText;
    private final Text walkerText;
    private final Maze maze;
    private final Walkers walkers;
    private final Places hedges;
    private final Places gaps;
    private final Sightings sightings;
    private final Sheet[] sheets;
    private int finding;

    // Rows for one call's work, made once so that calls make nothing.
    private final int[] guards;
    private final Lost lost;
    private final int[] crowd;
    private long[] chances;
    private long[] nextChances;

    public MazeCalendar() {
        mazeText = new Text(MAZE_BYTES);
        walkerText = new Text(WALKER_BYTES);
        maze = new Maze();
        walkers = new Walkers();
        hedges = new Places();
        gaps = new Places();
        sightings = new Sightings();
        sheets = new Sheet[MOST_SHEETS];
        for (int s = 0; s < MOST_SHEETS; s++) {
            sheets[s] = new Sheet();
        }
        guards = new int[MOST_GUARDS];
        lost = new Lost();
        crowd = new int[MOST_DAYS];
        chances = new long[MOST_DAYS];
        nextChances = new long[MOST_DAYS];
    }

    // ---- the maze, walkers

    public int type(int text, int b) {
        if (!isText(text) || b < 0 || b > 255) {
            return BAD;
        }
        Text typed = textAt(text);
        if (typed.isFull()) {
            return FULL;
        }
        typed.add(b);
        takeText(text);
        return typed.length;
    }

    public int wipe(int text) {
        if (!isText(text)) {
            return BAD;
        }
        Text typed = textAt(text);
        int had = typed.length;
        typed.length = 0;
        takeText(text);
        return had;
    }

    public int undo(int text) {
        if (!isText(text)) {
            return BAD;
        }
        Text typed = textAt(text);
        if (typed.length == 0) {
            return NOT;
        }
        typed.length--;
        takeText(text);
        return typed.length;
    }

    public int fault(int text) {
        if (!isText(text)) {
            return BAD;
        }
        return text == 0 ? maze.fault : walkers.fault;
    }

    public int walker(int walker, int what) {
        if (!isWalker(walker)) {
            return BAD;
        }
        switch (what) {
            case 0:
                return walkers.days[walker];
            case 1:
                return walkers.headings[walker];
            case 2:
                return walkers.hands[walker];
            default:
                return BAD;
        }
    }

    public int hedge(int step, int day, int side) {
        return addPlace(hedges, step, day, side);
    }

    public int gap(int step, int day, int side) {
        return addPlace(gaps, step, day, side);
    }

    public int back(int what) {
        if (what != 0 && what != 1) {
            return BAD;
        }
        Places places = what == 0 ? hedges : gaps;
        if (places.size == 0) {
            return NOT;
        }
        places.size--;
        maze.layOut(hedges, gaps);
        return places.size;
    }

    public int read(int s) {
        Sheet sheet = sheetAt(s);
        if (sheet == null) {
            return BAD;
        }
        if (sheet.isLost()) {
            return find(NULL);
        }
        int came = 0;
        for (int i = 0; i + 2 < sheet.size; i += 3) {
            if (addPlace(gaps, sheet.items[i], sheet.items[i + 1], sheet.items[i + 2]) < 0) {
                break;
            }
            came++;
        }
        return came;
    }

    // ---- walks

    public int open(int step, int day) {
        if (!isStep(step) || !maze.hasDay(day)) {
            return BAD;
        }
        return maze.openWays(step, day);
    }

    public int on(int walker, int steps, int what) {
        if (!isWalker(walker) || !isStep(steps) || (what != 0 && what != 1)) {
            return BAD;
        }
        int start = startOf(walker);
        if (start == NONE) {
            return NONE;
        }
        int state = maze.walk(start, walkers.hands[walker], steps);
        return what == 0 ? state / WAYS : state % WAYS;
    }

    public int comes(int walker, int day) {
        if (!isWalker(walker) || !maze.hasDay(day)) {
            return BAD;
        }
        int state = startOf(walker);
        if (state == NONE) {
            return NONE;
        }
        for (int steps = 0; steps < STEPS; steps++) {
            if (state / WAYS == day) {
                return steps;
            }
            state = maze.next(state, walkers.hands[walker], steps);
        }
        return NONE;
    }

    public int meet(int a, int b) {
        if (!isWalker(a) || !isWalker(b) || a == b) {
            return BAD;
        }
        int one = startOf(a);
        int other = startOf(b);
        if (one == NONE || other == NONE) {
            return NONE;
        }
        for (int steps = 0; steps < STEPS; steps++) {
            if (one / WAYS == other / WAYS) {
                return steps;
            }
            one = maze.next(one, walkers.hands[a], steps);
            other = maze.next(other, walkers.hands[b], steps);
        }
        return NONE;
    }

    public int round(int walker) {
        if (!isWalker(walker)) {
            return BAD;
        }
        int start = startOf(walker);
        if (start == NONE) {
            return NONE;
        }
        int hand = walkers.hands[walker];
        int state = maze.walk(start, hand, LAST_STEP);
        // Behind as many STEPS as there are states it must be on its round.
        for (int k = 0; k < MOST_STATES; k++) {
            state = maze.next(state, hand, LAST_STEP);
        }
        int onRound = state;
        for (int steps = 1; steps <= MOST_STATES; steps++) {
            state = maze.next(state, hand, LAST_STEP);
            if (state == onRound) {
                return steps;
            }
        }
        return NONE;
    }

    public int trod(int steps, int what) {
        if (!isStep(steps) || (what != 0 && what != 1)) {
            return BAD;
        }
        long set = 0L;
        for (int walker = 0; walker < walkers.size; walker++) {
            set |= trodBy(walker, steps);
        }
        return (int) ((what == 0 ? set : set >>> 18) & 0x3FFFFL);
    }

    // ---- ways

    public int way(int step, int from, int to) {
        if (!isStep(step) || !maze.hasDay(from) || !maze.hasDay(to)) {
            return BAD;
        }
        return maze.distance(step, from, to);
    }

    public int through(int step, int from, int by, int to) {
        if (!isStep(step) || !maze.hasDay(from) || !maze.hasDay(by) || !maze.hasDay(to)) {
            return BAD;
        }
        int first = maze.distance(step, from, by);
        int second = maze.distance(step, by, to);
        return first == NONE || second == NONE ? NONE : first + second;
    }

    public int joined(int step, int day) {
        if (!isStep(step) || !maze.hasDay(day)) {
            return BAD;
        }
        return Long.bitCount(maze.reach(1L << day, step, 0L));
    }

    public int hear(int step, int a, int b) {
        if (!isStep(step) || !maze.hasDay(a) || !maze.hasDay(b)) {
            return BAD;
        }
        boolean near = a != b && has(maze.spreadOverHedges(1L << a), b);
        return near && !has(maze.spread(1L << a, step), b) ? 1 : 0;
    }

    public int cut(int step, int from, int to) {
        if (!isStep(step) || !maze.hasDay(from) || !maze.hasDay(to)) {
            return BAD;
        }
        long reached = maze.reach(1L << from, step, 0L);
        for (int places = 0; places <= MOST_CUT; places++) {
            if (has(reached, to)) {
                return places;
            }
            reached = maze.reach(maze.spreadOverHedges(reached), step, 0L);
        }
        return NONE;
    }

    public int guard(int step, int from, int to, int i) {
        if (!isStep(step) || !maze.hasDay(from) || !maze.hasDay(to) || from == to) {
            return BAD;
        }
        if (i < NONE || i >= MOST_GUARDS) {
            return BAD;
        }
        int needed = findGuards(step, from, to);
        if (i == NONE) {
            return needed;
        }
        return i < needed ? guards[i] : NONE;
    }

    // ---- seen, chance

    public int seen(int steps, int day) {
        if (!isStep(steps) || day < 0 || day >= MOST_DAYS) {
            return BAD;
        }
        if (sightings.isFull()) {
            return FULL;
        }
        sightings.add(steps, day);
        return sightings.size;
    }

    public int forget() {
        int had = sightings.size;
        sightings.clear();
        return had;
    }

    public int began(int hand, int i) {
        if (!isHand(hand) || i < NONE || i >= MOST_STATES) {
            return BAD;
        }
        findStarts(hand);
        return i == NONE ? lost.size : startAt(i);
    }

    public int look(int hand, int steps) {
        if (!isHand(hand) || !isStep(steps)) {
            return BAD;
        }
        findStarts(hand);
        return busiestDay(hand, steps);
    }

    public long stray(int step, int from, int steps, int to, int what) {
        if (!isStep(step) || !maze.hasDay(from) || !maze.hasDay(to)) {
            return LEAST_LONG - BAD;
        }
        if (steps < 0 || steps > MOST_STRAY || (what != 0 && what != 1)) {
            return LEAST_LONG - BAD;
        }
        Arrays.fill(chances, 0L);
        chances[from] = 1L;
        long below = 1L;
        for (int k = 0; k < steps; k++) {
            strayOn(step);
            below *= TWELVE;
        }
        long above = chances[to];
        long common = commonDivisor(above, below);
        if (common == 0L) {
            return LEAST_LONG - BAD;
        }
        return (what == 0 ? above : below) / common;
    }

    public int child(int seed, int day, int steps, int what) {
        if (!maze.hasDay(day) || steps < 1 || steps >= STEPS || (what != 0 && what != 1)) {
            return BAD;
        }
        int lot = seed;
        int now = day;
        int went = 0;
        for (int step = 0; step < steps; step++) {
            lot = 1103515245 * lot + 12345;
            int way = (lot >>> 16) % WAYS;
            if ((maze.openWays(step, now) >> way & 1) != 0) {
                now = maze.beside(now, way);
                went++;
            }
        }
        return what == 0 ? now : went;
    }

    // ---- sheets

    public int sheet(int s, int form, int n) {
        Sheet sheet = sheetAt(s);
        if (sheet == null || !isForm(form) || n > MOST_ITEMS) {
            return BAD;
        }
        if (n < 0) {
            return find(SIZE);
        }
        sheet.renew(form, n);
        return n;
    }

    public int lose(int s) {
        Sheet sheet = sheetAt(s);
        if (sheet == null) {
            return BAD;
        }
        if (sheet.isLost()) {
            return find(NULL);
        }
        int had = sheet.size;
        sheet.renew(NONE, 0);
        return had;
    }

    public int put(int s, int form, int i, int v) {
        Sheet sheet = sheetAt(s);
        if (sheet == null || !isForm(form)) {
            return BAD;
        }
        int found = itemFinding(sheet, form, i);
        if (found != 0) {
            return find(found);
        }
        sheet.setItem(i, v);
        return 1;
    }

    public int get(int s, int form, int i) {
        Sheet sheet = sheetAt(s);
        if (sheet == null || !isForm(form)) {
            return LEAST_INT;
        }
        int found = itemFinding(sheet, form, i);
        if (found != 0) {
            find(found);
            return LEAST_INT;
        }
        return sheet.items[i];
    }

    public int copy(int s, int i, int t, int j, int n) {
        Sheet from = sheetAt(s);
        Sheet to = sheetAt(t);
        if (from == null || to == null) {
            return BAD;
        }
        if (from.isLost() || to.isLost()) {
            return find(NULL);
        }
        if (from.form != to.form) {
            return find(STORE);
        }
        if (!from.holdsFrom(i, n) || !to.holdsFrom(j, n)) {
            return find(INDEX);
        }
        System.arraycopy(from.items, i, to.items, j, n);
        return 1;
    }

    public int write(int walker, int s) {
        Sheet sheet = sheetAt(s);
        if (!isWalker(walker) || sheet == null) {
            return BAD;
        }
        if (sheet.isLost()) {
            return find(NULL);
        }
        int state = startOf(walker);
        for (int steps = 0; steps < sheet.size; steps++) {
            if (state == NONE) {
                sheet.setItem(steps, NONE);
            } else {
                sheet.setItem(steps, state / WAYS);
                state = maze.next(state, walkers.hands[walker], steps);
            }
        }
        return sheet.size;
    }

    public int count(int what) {
        switch (what) {
            case 0:
                return maze.days();
            case 1:
                return maze.rows;
            case 2:
                return walkers.size;
            case 3:
                return mazeText.length;
            case 4:
                return walkerText.length;
            case 5:
                return hedges.size;
            case 6:
                return gaps.size;
            case 7:
                return sightings.size;
            case 8:
                return finding;
            default:
                return BAD;
        }
    }

    public long digest() {
        long h = 17L;
        for (int what = 0; what <= 7; what++) {
            h = mix(h, count(what));
        }
        h = mix(mix(h, fault(0)), fault(1));
        for (int day = 0; day < maze.days(); day++) {
            h = mixDay(h, day);
        }
        for (int walker = 0; walker < walkers.size; walker++) {
            h = mixWalker(h, walker);
        }
        h = mix(h, meet(0, 1));
        h = mix(mix(h, trod(20, 0)), trod(20, 1));
        h = mix(mix(h, guard(5, 0, 8, NONE)), guard(5, 0, 8, 0));
        for (int hand = 0; hand < HANDS; hand++) {
            h = mixHand(h, hand);
        }
        h = mix(mix(h, stray(5, 0, 5, 1, 0)), stray(5, 0, 5, 1, 1));
        return mix(mix(h, child(7, 0, 30, 0)), child(7, 0, 30, 1));
    }

    // ---- what the calls share

    private static boolean has(long set, int day) {
        return (set >>> day & 1L) != 0L;
    }

    private static boolean isText(int text) {
        return text == 0 || text == 1;
    }

    private static boolean isStep(int step) {
        return step >= 0 && step < STEPS;
    }

    private static boolean isHand(int hand) {
        return hand >= 0 && hand < HANDS;
    }

    private static boolean isForm(int form) {
        return form >= 0 && form < FORMS;
    }

    private boolean isWalker(int walker) {
        return walker >= 0 && walker < walkers.size;
    }

    private Text textAt(int text) {
        return text == 0 ? mazeText : walkerText;
    }

    private void takeText(int text) {
        if (text == 0) {
            maze.take(mazeText);
            maze.layOut(hedges, gaps);
        } else {
            walkers.take(walkerText);
        }
    }

    private Sheet sheetAt(int s) {
        return s >= 0 && s < MOST_SHEETS ? sheets[s] : null;
    }

    private int find(int number) {
        finding = number;
        return FINDING_BASE - number;
    }

    private static int itemFinding(Sheet sheet, int form, int i) {
        if (sheet.isLost()) {
            return NULL;
        }
        if (sheet.form != form) {
            return CAST;
        }
        return sheet.holds(i) ? 0 : INDEX;
    }

    private int addPlace(Places places, int step, int day, int side) {
        if (!isStep(step) || day < 0 || day >= MOST_DAYS || (side != 0 && side != 1)) {
            return BAD;
        }
        if (places.isFull()) {
            return FULL;
        }
        places.add(step, day, side);
        maze.layOut(hedges, gaps);
        return places.size;
    }

    /** The state in which a WALKER begins; NONE: it is NOWHERE. */
    private int startOf(int walker) {
        int day = walkers.days[walker];
        return maze.hasDay(day) ? WAYS * day + walkers.headings[walker] : NONE;
    }

    private long trodBy(int walker, int steps) {
        int state = startOf(walker);
        if (state == NONE) {
            return 0L;
        }
        long set = 1L << state / WAYS;
        for (int step = 0; step < steps; step++) {
            state = maze.next(state, walkers.hands[walker], step);
            set |= 1L << state / WAYS;
        }
        return set;
    }

    /** How many guards part two DAYS, with the least such row in guards; NONE: more than two. */
    private int findGuards(int step, int from, int to) {
        if (maze.isParted(step, from, to, 0L)) {
            return 0;
        }
        if (has(maze.spread(1L << from, step), to)) {
            return NONE;
        }
        for (int a = 0; a < maze.days(); a++) {
            if (a != from && a != to && maze.isParted(step, from, to, 1L << a)) {
                guards[0] = a;
                return 1;
            }
        }
        for (int a = 0; a < maze.days(); a++) {
            if (a != from && a != to && findSecondGuard(step, from, to, a)) {
                return 2;
            }
        }
        return NONE;
    }

    private boolean findSecondGuard(int step, int from, int to, int a) {
        for (int b = a + 1; b < maze.days(); b++) {
            if (b != from && b != to && maze.isParted(step, from, to, 1L << a | 1L << b)) {
                guards[0] = a;
                guards[1] = b;
                return true;
            }
        }
        return false;
    }

    /** Leaves in lost those starts that fit all that was SEEN. */
    private void findStarts(int hand) {
        lost.beginAnywhere(maze.days());
        for (int steps = 0; steps <= sightings.last; steps++) {
            int day = sightings.dayAt(steps);
            if (day != NONE) {
                lost.keepThoseOn(day);
            }
            lost.goOn(maze, hand, steps);
        }
    }

    private int startAt(int i) {
        return i >= 0 && i < lost.size ? lost.starts[i] : NONE;
    }

    /** The DAY on which most of those in lost are behind so many STEPS. */
    private int busiestDay(int hand, int steps) {
        lost.beginAgain();
        for (int step = 0; step < steps; step++) {
            lost.goOn(maze, hand, step);
        }
        Arrays.fill(crowd, 0);
        for (int k = 0; k < lost.size; k++) {
            int day = lost.states[k] / WAYS;
            if (maze.hasDay(day)) {
                crowd[day]++;
            }
        }
        int best = NONE;
        int most = 0;
        for (int day = 0; day < MOST_DAYS; day++) {
            if (crowd[day] > most) {
                most = crowd[day];
                best = day;
            }
        }
        return best;
    }

    /** One STEP by chance; the chances are then in twelfths of what they were in. */
    private void strayOn(int step) {
        Arrays.fill(nextChances, 0L);
        for (int day = 0; day < maze.days(); day++) {
            int ways = maze.openWays(step, day);
            int choices = Integer.bitCount(ways);
            if (choices == 0) {
                nextChances[day] += TWELVE * chances[day];
                continue;
            }
            for (int way = 0; way < WAYS; way++) {
                int to = maze.beside(day, way);
                if ((ways >> way & 1) != 0 && maze.hasDay(to)) {
                    nextChances[to] += TWELVE / choices * chances[day];
                }
            }
        }
        long[] spent = chances;
        chances = nextChances;
        nextChances = spent;
    }

    private static long commonDivisor(long a, long b) {
        long one = a;
        long other = b;
        for (int k = 0; k < STEPS && other != 0L; k++) {
            long rest = one % other;
            one = other;
            other = rest;
        }
        return one;
    }

    private static long mix(long h, long value) {
        return 31L * h + value;
    }

    private long mixDay(long h, int day) {
        long mixed = mix(mix(h, open(0, day)), open(50, day));
        mixed = mix(mix(mixed, joined(5, day)), way(5, 0, day));
        return mix(mixed, cut(5, 0, day));
    }

    private long mixWalker(long h, int walker) {
        long mixed = h;
        for (int what = 0; what <= 2; what++) {
            mixed = mix(mixed, walker(walker, what));
        }
        mixed = mix(mix(mixed, on(walker, 7, 0)), on(walker, 7, 1));
        mixed = mix(mix(mixed, on(walker, 99, 0)), comes(walker, 0));
        return mix(mixed, round(walker));
    }

    /** began(hand, NONE), began(hand, 0), look(hand, 9), with the dear search done once. */
    private long mixHand(long h, int hand) {
        findStarts(hand);
        long mixed = mix(mix(h, lost.size), startAt(0));
        return mix(mixed, busiestDay(hand, 9));
    }
}
