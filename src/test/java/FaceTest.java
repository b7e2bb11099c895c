import java.io.IOException;
import java.lang.reflect.Constructor;
import java.lang.reflect.Field;
import java.lang.reflect.Member;
import java.lang.reflect.Method;
import java.lang.reflect.Modifier;
import java.nio.file.Files;
import java.nio.file.Path;
import java.util.Arrays;
import java.util.Set;
import java.util.TreeSet;
import java.util.regex.Pattern;

/** The public face of the document, and the rules of LANGUAGE.md that can be looked up in class and text. */
public final class FaceTest {
    private static final Check CHECK = new Check("FaceTest");
    private static final Set<String> FACE = new TreeSet<>(Set.of(
        "int propose(int, int, boolean, int)", "int prepare(int, int)", "int deliver(int)", "boolean lose(int)",
        "boolean crash(int)", "int execute(int)", "int waiting()", "int message(int)", "int lost()", "int state(int, int)",
        "int command(int, int)", "int seq(int, int)", "int deps(int, int)", "int promised(int, int)", "int result(int, int)",
        "int place(int, int)", "int value(int, int)"));
    private static final String[] RULED_OUT = {
        "\\bimport\\b", "\\bpackage\\b", "\\bthrow\\b", "\\bthrows\\b", "\\btry\\b", "\\bcatch\\b", "\\bsynchronized\\b",
        "\\bassert\\b", "->", "::", "\\bprotected\\b", "\\bSystem\\.(?!arraycopy)", "\\bThread\\b", "\\bObject\\b",
        "\\bhashCode\\b", "\\btoString\\b", "Exact\\(", "static \\{"};

    public static void main(String[] args) throws IOException {
        publicFace();
        classesInside();
        text();
        CHECK.end();
    }

    private static void publicFace() {
        Class<?> face = LeaderlessMap.class;
        CHECK.due("public and final", face.getModifiers(), Modifier.PUBLIC | Modifier.FINAL);
        Set<String> found = new TreeSet<>();
        Set<String> hidden = new TreeSet<>();
        for (Method method : face.getDeclaredMethods()) {
            if (Modifier.isPrivate(method.getModifiers())) {
                hidden.add(method.getName());
            } else {
                String types = Arrays.toString(method.getParameterTypes()).replace("[", "(").replace("]", ")");
                found.add(method.getReturnType() + " " + method.getName() + types);
                CHECK.due(method.getName() + " is public and no more", method.getModifiers(), Modifier.PUBLIC);
            }
        }
        CHECK.due("the methods are " + found, found.equals(FACE), true);
        for (String row : FACE) {
            String name = row.substring(row.indexOf(' ') + 1, row.indexOf('('));
            CHECK.due("no private method is called " + name, hidden.contains(name), false);
        }
        Constructor<?>[] constructors = face.getDeclaredConstructors();
        CHECK.due("one constructor", constructors.length, 1);
        CHECK.due("it takes one int", Arrays.equals(constructors[0].getParameterTypes(), new Class<?>[] {int.class}), true);
        CHECK.due("it is public", isVisible(constructors[0]), true);
        for (Field field : face.getDeclaredFields()) {
            CHECK.due(field.getName() + " is private", isVisible(field), false);
        }
    }

    private static boolean isVisible(Member member) {
        return !Modifier.isPrivate(member.getModifiers());
    }

    private static void classesInside() {
        Class<?>[] inside = LeaderlessMap.class.getDeclaredClasses();
        CHECK.due("at most twelve classes", inside.length < 12, true);
        for (Class<?> one : inside) {
            CHECK.due(one + " is static", Modifier.isStatic(one.getModifiers()), true);
            CHECK.due(one + " is not public", Modifier.isPublic(one.getModifiers()), false);
            CHECK.due(one + " has at most twenty fields", one.getDeclaredFields().length <= 20, true);
            for (Field field : one.getDeclaredFields()) {
                CHECK.due(one + ": " + field.getName() + " is not static", Modifier.isStatic(field.getModifiers()), false);
            }
            for (Method method : one.getDeclaredMethods()) {
                CHECK.due(method + " has at most seven parameters", method.getParameterCount() <= 7, true);
            }
        }
    }

    private static void text() throws IOException {
        String text = Files.readString(Path.of("src/main/java/LeaderlessMap.java"));
        String code = Pattern.compile("/\\*.*?\\*/|//[^\n]*", Pattern.DOTALL).matcher(text).replaceAll(" ");
        for (String word : RULED_OUT) {
            CHECK.due("the text has " + word, Pattern.compile(word).matcher(code).find(), false);
        }
        CHECK.due("no empty condition", Pattern.compile("for \\(;;|while \\(true").matcher(code).find(), false);
    }
}
