import java.io.IOException;
import java.lang.reflect.Field;
import java.lang.reflect.Method;
import java.lang.reflect.Modifier;
import java.nio.file.Files;
import java.nio.file.Path;
import java.util.List;
import java.util.Set;
import java.util.TreeSet;
import java.util.regex.Matcher;
import java.util.regex.Pattern;

/** The document's face and no other, and the rules of LANGUAGE.md that can be seen from outside. */
public final class FaceTest {
    private static final Path SOURCE = Path.of("src/main/java/DayCubes.java");
    private static final Set<String> METHODS = Set.of(
        "int type(int)", "int clear()", "int desk()", "int side(int,int)", "int cube(int,int)",
        "int place(int)", "int day(int)", "int turn(int,int)", "int changes(int,int)",
        "int pastes(int,int,int)", "int undo()", "int now(int)", "int number(int,int)",
        "int through(int,int)", "int odds(int,int)", "int sees(int,int)", "int forget()",
        "int which()", "int look()", "int mark(int,int)", "int keep(int)", "int back(int)",
        "int count(int)", "long trace()");
    private static final Set<String> CONSTANTS = Set.of("BAD", "STATE", "FULL", "NONE", "NO");
    private static final Check check = new Check();

    public static void main(String[] args) throws IOException {
        face();
        nested();
        source();
        sizes();
        check.end();
    }

    private static void face() {
        Class<?> c = DayCubes.class;
        check.holds("public and final", Modifier.isPublic(c.getModifiers()) && Modifier.isFinal(c.getModifiers()));
        check.due("constructors", c.getDeclaredConstructors().length, 1);
        check.holds("public constructor", Modifier.isPublic(c.getDeclaredConstructors()[0].getModifiers()));
        Set<String> open = new TreeSet<>();
        for (Method m : c.getDeclaredMethods()) {
            if (!Modifier.isPrivate(m.getModifiers())) {
                open.add(described(m));
            } else {
                check.holds("private " + m.getName() + " has a name of its own", !isFaceName(m.getName()));
            }
        }
        check.holds("methods " + open, open.equals(new TreeSet<>(METHODS)));
        Set<String> constants = new TreeSet<>();
        for (Field f : c.getDeclaredFields()) {
            if (!Modifier.isPrivate(f.getModifiers())) {
                constants.add(f.getName());
            }
        }
        checkFields(c);
        check.holds("constants " + constants, constants.equals(new TreeSet<>(CONSTANTS)));
    }

    private static String described(Method m) {
        StringBuilder text = new StringBuilder(m.getReturnType().getName()).append(' ').append(m.getName()).append('(');
        for (int i = 0; i < m.getParameterCount(); i++) {
            text.append(i == 0 ? "" : ",").append(m.getParameterTypes()[i].getName());
        }
        return text.append(')').toString();
    }

    private static boolean isFaceName(String name) {
        return METHODS.stream().anyMatch(m -> m.contains(" " + name + "("));
    }

    private static void checkFields(Class<?> c) {
        int own = 0;
        for (Field f : c.getDeclaredFields()) {
            boolean fixed = Modifier.isStatic(f.getModifiers());
            own += fixed ? 0 : 1;
            check.holds("static " + f + " is final", !fixed || Modifier.isFinal(f.getModifiers()));
            check.holds("static " + f + " is a number or a row of numbers",
                !fixed || f.getType() == int.class || f.getType() == int[].class);
        }
        check.holds(c + " has some twenty fields at most", own <= 20);
    }

    private static void nested() {
        Class<?>[] classes = DayCubes.class.getDeclaredClasses();
        check.holds("at most twelve classes", classes.length + 1 <= 12);
        for (Class<?> c : classes) {
            check.holds(c + " is static", Modifier.isStatic(c.getModifiers()));
            checkFields(c);
            for (Method m : c.getDeclaredMethods()) {
                check.holds(m + " has a name of its own", !isFaceName(m.getName()));
                check.holds(m + " takes seven at most", m.getParameterCount() <= 7);
            }
        }
    }

    private static void source() throws IOException {
        String text = Files.readString(SOURCE);
        check.holds("signs 10, 32 .. 126 alone", text.chars().allMatch(c -> c == 10 || c >= 32 && c < 127));
        String code = text.replaceAll("(?s)/\\*.*?\\*/", "").replaceAll("//[^\n]*", "");
        String[] words = {"throw", "try", "catch", "synchronized", "assert", "package", "protected", "->", "::",
            "Exact", "System\\.(?!arraycopy)", "Thread", "Random", "static \\{", "equals", "hashCode", "toString"};
        for (String word : words) {
            String pattern = Character.isLetter(word.charAt(0)) && word.matches("[a-z]+") ? "\\b" + word + "\\b" : word;
            check.holds("no " + word, !Pattern.compile(pattern).matcher(code).find());
        }
        Matcher fill = Pattern.compile("Arrays\\.(\\w+)\\((\\w+)").matcher(code);
        while (fill.find()) {
            check.due("Arrays." + fill.group(1), fill.group(1).equals("fill") ? 1 : 0, 1);
            check.holds(fill.group(2) + " is a row of numbers", code.contains("final int[] " + fill.group(2) + " ="));
        }
        for (String line : code.split("\n")) {
            check.holds("only Arrays is imported: " + line,
                !line.startsWith("import") || line.equals("import java.util.Arrays;"));
        }
    }

    /** "Methods stay short (some sixty lines)" */
    private static void sizes() throws IOException {
        int began = -1;
        int methods = 0;
        List<String> lines = Files.readAllLines(SOURCE);
        for (int i = 0; i < lines.size(); i++) {
            String line = lines.get(i);
            if (line.matches("( {4}| {8})[A-Za-z].*\\) \\{")) {
                began = i;
                methods++;
            } else if (began >= 0 && line.matches("( {4}| {8})\\}") && indent(line) == indent(lines.get(began))) {
                check.holds("sixty lines at most: " + lines.get(began).trim(), i - began < 60);
                began = -1;
            }
        }
        check.holds("methods were found", methods > METHODS.size());
    }

    private static int indent(String line) {
        return line.length() - line.stripLeading().length();
    }
}
