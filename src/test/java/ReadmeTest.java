import java.io.IOException;
import java.lang.reflect.Method;
import java.lang.reflect.Modifier;
import java.nio.file.Files;
import java.nio.file.Path;
import java.util.regex.Matcher;
import java.util.regex.Pattern;

/** README.md: the class answers as its example says, and its table has each call of the face. */
public final class ReadmeTest {
    private static final Pattern TYPED = Pattern.compile("for \\(char c : \"([^\"]*)\"\\.toCharArray\\(\\)\\) x\\.type\\((\\d), c\\);.*");
    private static final Pattern ASKED = Pattern.compile("x\\.(\\w+)\\(([-0-9, ]*)\\);\\s+// (-?\\d+): .*");
    private static final String MADE = "MazeCalendar x = new MazeCalendar();";

    private static int wrong = 0;
    private static int answers = 0;

    private static void fail(String what) {
        wrong++;
        System.out.println(what);
    }

    private static Method methodOf(String name, int arguments) {
        for (Method m : MazeCalendar.class.getDeclaredMethods()) {
            if (m.getName().equals(name) && m.getParameterCount() == arguments && Modifier.isPublic(m.getModifiers())) return m;
        }
        return null;
    }

    private static void ask(MazeCalendar x, String line, Matcher asked) throws ReflectiveOperationException {
        String[] told = asked.group(2).isEmpty() ? new String[0] : asked.group(2).split(", ");
        Object[] arguments = new Object[told.length];
        for (int k = 0; k < told.length; k++) arguments[k] = Integer.parseInt(told[k]);
        Method method = methodOf(asked.group(1), told.length);
        if (method == null) {
            fail("there is no such call: " + line);
            return;
        }
        long got = ((Number) method.invoke(x, arguments)).longValue();
        if (got != Long.parseLong(asked.group(3))) fail("the class answers " + got + ": " + line);
        answers++;
    }

    private static void example(String readme) throws ReflectiveOperationException {
        Matcher code = Pattern.compile("(?s)```java\n(.*?)```").matcher(readme);
        if (!code.find()) {
            fail("there is no example");
            return;
        }
        MazeCalendar x = null;
        for (String line : code.group(1).split("\n")) {
            Matcher typed = TYPED.matcher(line), asked = ASKED.matcher(line);
            if (line.equals(MADE)) x = new MazeCalendar();
            else if (x != null && typed.matches()) for (char c : typed.group(1).toCharArray()) x.type(Integer.parseInt(typed.group(2)), c);
            else if (x != null && asked.matches()) ask(x, line, asked);
            else fail("a line that is not understood: " + line);
        }
        if (answers == 0) fail("the example asks nothing");
    }

    /** Each call of the face (LanguageTest holds it against the document's), with its arguments. */
    private static void table(String readme, String source) {
        Matcher call = Pattern.compile("    public (?:int|long) (\\w+)\\(([^)]*)\\) \\{").matcher(source);
        int calls = 0;
        while (call.find()) {
            String row = "| `" + call.group(1) + "(" + call.group(2).replaceAll("\\bint ", "") + ")` |";
            if (!readme.contains(row)) fail("the table has no row " + row);
            calls++;
        }
        if (calls != 35) fail("the face has " + calls + " calls, not 35");
    }

    public static void main(String[] args) throws IOException, ReflectiveOperationException {
        String readme = Files.readString(Path.of("README.md"));
        example(readme);
        table(readme, Files.readString(Path.of("src/main/java/MazeCalendar.java")));
        System.out.println(wrong == 0 ? answers + " answers are as README.md says" : wrong + " lines of README.md are wrong");
        if (wrong != 0) System.exit(1);
    }
}
