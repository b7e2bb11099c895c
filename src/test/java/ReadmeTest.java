import java.io.IOException;
import java.lang.reflect.Method;
import java.lang.reflect.Modifier;
import java.nio.file.Files;
import java.nio.file.Path;
import java.util.ArrayList;
import java.util.Arrays;
import java.util.List;
import java.util.Set;
import java.util.TreeSet;
import java.util.regex.Matcher;
import java.util.regex.Pattern;

/** README.md: what its examples say is what the program answers, and its tables have the whole face and no more. */
public final class ReadmeTest {
    private static final Check CHECK = new Check("ReadmeTest");
    private static final Pattern MAKE = Pattern.compile("LeaderlessMap map = new LeaderlessMap\\((-?\\d+)\\);");
    private static final Pattern CALL = Pattern.compile("map\\.(\\w+)\\(([^)]*)\\)+; *// (-?\\d+|true|false)(:.*)?");
    private static final Pattern FRAME = Pattern.compile("public final class Mine \\{|public static void main.*|\\}");
    private static final Pattern ROW = Pattern.compile("\\| `(\\w+ \\w+\\([^)]*\\))` \\|.*");

    public static void main(String[] args) throws ReflectiveOperationException, IOException {
        List<String> lines = Files.readAllLines(Path.of("README.md"));
        examples(lines);
        tables(lines);
        CHECK.end();
    }

    private static void examples(List<String> lines) throws ReflectiveOperationException {
        Set<String> shown = new TreeSet<>();
        LeaderlessMap map = null;
        boolean inExample = false;
        for (String line : lines) {
            if (line.startsWith("```")) {
                inExample = line.equals("```java");
                map = null;
            } else if (inExample) {
                map = play(line.strip(), map, shown);
            }
        }
        CHECK.due("every method stands in an example, which are " + shown, shown.equals(names()), true);
    }

    /** The object after this line of an example; a line that is not understood is a fault, so none goes unchecked. */
    private static LeaderlessMap play(String line, LeaderlessMap map, Set<String> shown)
            throws ReflectiveOperationException {
        Matcher make = MAKE.matcher(line);
        Matcher call = CALL.matcher(line);
        if (make.matches()) {
            return new LeaderlessMap(Integer.parseInt(make.group(1)));
        }
        if (map != null && call.find()) {
            shown.add(call.group(1));
            String got = String.valueOf(answer(map, call.group(1), call.group(2)));
            CHECK.same(line, List.of(call.group(3)), List.of(got));
        } else {
            CHECK.due("a line that can be checked: " + line, FRAME.matcher(line).matches(), true);
        }
        return map;
    }

    private static Object answer(LeaderlessMap map, String name, String words) throws ReflectiveOperationException {
        String[] parts = words.isEmpty() ? new String[0] : words.split(", ");
        Object[] values = new Object[parts.length];
        for (int a = 0; a < parts.length; a++) {
            boolean truth = parts[a].equals("true") || parts[a].equals("false");
            values[a] = truth ? (Object) Boolean.valueOf(parts[a]) : (Object) Integer.valueOf(parts[a]);
        }
        for (Method method : publicMethods()) {
            if (method.getName().equals(name) && method.getParameterCount() == values.length) {
                return method.invoke(map, values);
            }
        }
        return "nothing, there is no such method";
    }

    private static void tables(List<String> lines) {
        Set<String> rows = new TreeSet<>();
        for (String line : lines) {
            Matcher row = ROW.matcher(line);
            if (row.matches()) {
                rows.add(row.group(1).replaceAll(" \\w+([,)])", "$1"));
            }
        }
        Set<String> face = new TreeSet<>();
        for (Method method : publicMethods()) {
            String types = Arrays.toString(method.getParameterTypes()).replace("[", "(").replace("]", ")");
            face.add(method.getReturnType() + " " + method.getName() + types);
        }
        CHECK.due("the tables have " + rows + ", the face is " + face, rows.equals(face), true);
        boolean made = lines.stream().anyMatch(line -> line.startsWith("| `LeaderlessMap(int n)` |"));
        CHECK.due("the tables have the constructor", made, true);
    }

    private static Set<String> names() {
        Set<String> names = new TreeSet<>();
        for (Method method : publicMethods()) {
            names.add(method.getName());
        }
        return names;
    }

    private static List<Method> publicMethods() {
        List<Method> found = new ArrayList<>();
        for (Method method : LeaderlessMap.class.getDeclaredMethods()) {
            if (Modifier.isPublic(method.getModifiers())) {
                found.add(method);
            }
        }
        return found;
    }
}
