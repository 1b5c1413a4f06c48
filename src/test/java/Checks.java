import java.util.HashSet;
import java.util.Set;

/** What the boundary tests share: the sentence that is looked at, and the answers due under it. */
final class Checks {
    static final int NONE = -1, BAD = -2, NOT = -3, FULL = -4;
    static final int NULL = -11, INDEX = -12, CAST = -13, STORE = -14, SIZE = -15;
    static final int LEAST = Integer.MIN_VALUE, MOST = Integer.MAX_VALUE;
    static final long BAD_LONG = Long.MIN_VALUE + 2;

    static final String ALL_OPEN = "bbbbbb;bbbbbb;bbbbbb;bbbbbb;bbbbbb;bbbbbb";
    static final String ALL_SHUT = "......;......;......;......;......;......";
    // From 0 right, down, left, down and so on to 30: one path of all 36 days.
    static final String PATH = "rrrrrd;brrrr.;rrrrrd;brrrr.;rrrrrd;rrrrr.";
    // 4 is open to 1, 3, 5 and 7; the corners stand alone.
    static final String CROSS = ".d.;rb.;...";
    // As many walkers as there may be, each begins on another day.
    static final String EIGHT = "00nl;35er;17sa;18wl;05nr;30ea;14sl;39wa";

    private static String sentence = "";
    private static final Set<String> sentences = new HashSet<>();
    private static int wrong = 0;

    private Checks() {
    }

    static void sentence(String words) {
        sentence = words;
        sentences.add(words);
    }

    static void due(String call, long got, long want) {
        if (got != want) {
            wrong++;
            System.out.println("\"" + sentence + "\": " + call + " answered " + got + ", due is " + want);
        }
    }

    static void type(MazeCalendar x, int text, String signs) {
        for (char c : signs.toCharArray()) x.type(text, c);
    }

    static MazeCalendar with(String maze, String walkers) {
        MazeCalendar x = new MazeCalendar();
        type(x, 0, maze);
        type(x, 1, walkers);
        return x;
    }

    static MazeCalendar with(String maze) {
        return with(maze, "");
    }

    static void end() {
        System.out.println(wrong == 0 ? sentences.size() + " sentences hold" : wrong + " answers are not as due");
        if (wrong != 0) System.exit(1);
    }
}
