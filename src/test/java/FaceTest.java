import java.io.IOException;
import java.lang.reflect.Constructor;
import java.lang.reflect.Field;
import java.lang.reflect.Member;
import java.lang.reflect.Method;
import java.lang.reflect.Modifier;
import java.nio.file.Files;
import java.nio.file.Path;
import java.util.Arrays;
import java.util.Set;
import java.util.TreeSet;
import java.util.regex.Matcher;
import java.util.regex.Pattern;

/** The class has the document's face and no other open member, as rule 1 of LANGUAGE.md asks. */
public final class FaceTest {
    private static final Path DOCUMENT = Path.of("../shared/DOC.md");
    private static int wrong = 0;

    private static void due(String what, Object got, Object want) {
        if (!got.equals(want)) {
            wrong++;
            System.out.println(what + " is " + got + ", due is " + want);
        }
    }

    public static void main(String[] args) throws IOException {
        face();
        members();
        System.out.println(wrong == 0 ? "the face is as due" : wrong + " things are not as due");
        if (wrong != 0) {
            System.exit(1);
        }
    }

    private static void face() throws IOException {
        Set<String> due = new TreeSet<>();
        Matcher line = Pattern.compile("^    public (.*;)$", Pattern.MULTILINE).matcher(Files.readString(DOCUMENT));
        while (line.find()) {
            due.add(line.group(1).replaceAll("(int) \\w+(?=[,)])", "$1"));
        }
        due("count of the document's face", due.size(), 41);
        Set<String> got = new TreeSet<>();
        for (Method m : WeatherGlaze.class.getDeclaredMethods()) {
            if (Modifier.isPublic(m.getModifiers())) {
                due("static " + m.getName(), Modifier.isStatic(m.getModifiers()), false);
                got.add(m.getReturnType() + " " + m.getName() + parameters(m.getParameterTypes()));
            }
        }
        for (Constructor<?> c : WeatherGlaze.class.getDeclaredConstructors()) {
            due("public constructor", Modifier.isPublic(c.getModifiers()), true);
            got.add("WeatherGlaze" + parameters(c.getParameterTypes()));
        }
        due("face", got, due);
        int modifiers = WeatherGlaze.class.getModifiers();
        due("public and final", Modifier.isPublic(modifiers) && Modifier.isFinal(modifiers), true);
    }

    private static String parameters(Class<?>[] types) {
        return "(" + String.join(", ", Arrays.stream(types).map(Class::getName).toList()) + ");";
    }

    private static void members() {
        Set<String> open = new TreeSet<>();
        for (Method m : WeatherGlaze.class.getDeclaredMethods()) {
            if (Modifier.isPublic(m.getModifiers())) {
                open.add(m.getName());
            }
        }
        for (Method m : WeatherGlaze.class.getDeclaredMethods()) {
            if (!Modifier.isPublic(m.getModifiers())) {
                due("private " + m, isPrivate(m), true);
                due("a public one's name: " + m, open.contains(m.getName()), false);
            }
        }
        for (Field f : WeatherGlaze.class.getDeclaredFields()) {
            due("private " + f, isPrivate(f), true);
        }
        for (Class<?> c : WeatherGlaze.class.getDeclaredClasses()) {
            for (Method m : c.getDeclaredMethods()) {
                due("a public one's name: " + m, open.contains(m.getName()), false);
            }
        }
    }

    private static boolean isPrivate(Member m) {
        return Modifier.isPrivate(m.getModifiers());
    }
}
