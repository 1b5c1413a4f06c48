import java.io.IOException;
import java.lang.reflect.Constructor;
import java.lang.reflect.Field;
import java.lang.reflect.Method;
import java.lang.reflect.Modifier;
import java.nio.file.Files;
import java.nio.file.Path;
import java.util.Arrays;
import java.util.List;
import java.util.Set;
import java.util.TreeSet;
import java.util.regex.Matcher;
import java.util.regex.Pattern;

/** The face of the class, and those rules of LANGUAGE.md that can be told from the file itself. */
public final class LanguageTest {
    private static final String[] FACE = {
        "int type(int,int)", "int wipe(int)", "int undo(int)", "int fault(int)", "int walker(int,int)",
        "int hedge(int,int,int)", "int gap(int,int,int)", "int back(int)", "int read(int)", "int open(int,int)",
        "int on(int,int,int)", "int comes(int,int)", "int meet(int,int)", "int round(int)", "int trod(int,int)",
        "int way(int,int,int)", "int through(int,int,int,int)", "int joined(int,int)", "int hear(int,int,int)",
        "int cut(int,int,int)", "int guard(int,int,int,int)", "int seen(int,int)", "int forget()",
        "int began(int,int)", "int look(int,int)", "long stray(int,int,int,int,int)", "int child(int,int,int,int)",
        "int sheet(int,int,int)", "int lose(int)", "int put(int,int,int,int)", "int get(int,int,int)",
        "int copy(int,int,int,int,int)", "int write(int,int)", "int count(int)", "long digest()"};
    private static final String[] FORBIDDEN = {
        "\\bthrow\\b", "\\btry\\b", "\\bcatch\\b", "\\bsynchronized\\b", "\\bassert\\b", "\\bfinally\\b", "->", "::",
        "\\bpackage\\b", "\\bRandom\\b", "\\bThread\\b", "currentTime", "nanoTime", "Exact\\b", "\\bdouble\\b",
        "\\bfloat\\b", "\\bprotected\\b", "\\bObject\\b", "\\bvar\\b"};

    private static int wrong = 0;

    private static void hold(boolean well, String what) {
        if (!well) {
            wrong++;
            System.out.println(what);
        }
    }

    private static void face() {
        Class<?> c = MazeCalendar.class;
        hold(Modifier.isPublic(c.getModifiers()) && Modifier.isFinal(c.getModifiers()), "the class is public and final");
        Set<String> due = new TreeSet<>(Arrays.asList(FACE));
        Set<String> names = new TreeSet<>();
        for (String f : FACE) names.add(f.replaceAll("^\\w+ |\\(.*", ""));
        Set<String> found = new TreeSet<>();
        for (Method m : c.getDeclaredMethods()) {
            if (Modifier.isPublic(m.getModifiers())) {
                StringBuilder told = new StringBuilder(m.getReturnType() + " " + m.getName() + "(");
                for (Class<?> p : m.getParameterTypes()) told.append(told.charAt(told.length() - 1) == '(' ? "" : ",").append(p);
                found.add(told.append(')').toString());
            } else {
                hold(Modifier.isPrivate(m.getModifiers()), m + " is not private");
                hold(!names.contains(m.getName()), m + " bears the name of a public one");
            }
        }
        hold(due.equals(found), "the face is " + found);
        Constructor<?>[] made = c.getDeclaredConstructors();
        hold(made.length == 1 && Modifier.isPublic(made[0].getModifiers()) && made[0].getParameterCount() == 0, "one constructor");
        Set<String> constants = new TreeSet<>(List.of("NONE", "BAD", "NOT", "FULL"));
        int fields = 0;
        for (Field f : c.getDeclaredFields()) {
            hold(Modifier.isPrivate(f.getModifiers()) || constants.contains(f.getName()), f + " is not private");
            hold(!Modifier.isStatic(f.getModifiers()) || Modifier.isFinal(f.getModifiers()), f + " is not final");
            if (!Modifier.isStatic(f.getModifiers())) fields++;
        }
        hold(fields <= 20, "the class has " + fields + " fields");
        for (Class<?> inside : c.getDeclaredClasses()) {
            hold(Modifier.isStatic(inside.getModifiers()), inside + " is not static");
            hold(inside.getDeclaredFields().length <= 20, inside + " has too many fields");
            for (Method m : inside.getDeclaredMethods()) {
                hold(!names.contains(m.getName()), m + " bears the name of a public one");
                hold(m.getParameterCount() <= 7, m + " takes too much");
            }
        }
        hold(c.getDeclaredClasses().length <= 11, "too many classes");
    }

    private static void source() throws IOException {
        String text = Files.readString(Path.of("src/main/java/MazeCalendar.java"));
        String code = text.replaceAll("(?s)/\\*.*?\\*/", "").replaceAll("//[^\n]*", "");
        for (String word : FORBIDDEN) {
            Matcher m = Pattern.compile(word).matcher(code);
            hold(!m.find(), "the file has " + word);
        }
        Matcher imports = Pattern.compile("import ([^;]+);").matcher(code);
        while (imports.find()) hold(imports.group(1).equals("java.util.Arrays"), "the file imports " + imports.group(1));
        hold(text.chars().allMatch(ch -> ch == '\n' || (ch >= 32 && ch < 127)), "a sign beyond 126");
        String calls = text.substring(text.indexOf("// ---- the maze, walkers"));
        hold(!Pattern.compile("\\bnew\\b").matcher(calls.replaceAll("//[^\n]*", "").replaceAll("(?s)/\\*.*?\\*/", "")).find(),
            "a call makes an object or an array");
        methodLengths(text);
    }

    private static void methodLengths(String text) {
        int begun = -1;
        String end = "";
        String[] lines = text.split("\n");
        for (int i = 0; i < lines.length; i++) {
            Matcher m = Pattern.compile("^( {4}| {8})\\S.*\\) \\{$").matcher(lines[i]);
            if (begun < 0 && m.find()) {
                begun = i;
                end = m.group(1) + "}";
            } else if (begun >= 0 && lines[i].equals(end)) {
                hold(i - begun < 60, "a long method: " + lines[begun].trim());
                begun = -1;
            }
        }
    }

    public static void main(String[] args) throws IOException {
        face();
        source();
        System.out.println(wrong == 0 ? "the rules are kept" : wrong + " rules are broken");
        if (wrong != 0) System.exit(1);
    }
}
