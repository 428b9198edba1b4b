import java.io.IOException;
import java.lang.reflect.Constructor;
import java.lang.reflect.Field;
import java.lang.reflect.Method;
import java.lang.reflect.Modifier;
import java.nio.file.Files;
import java.nio.file.Path;
import java.util.Arrays;
import java.util.HashSet;
import java.util.Set;
import java.util.TreeSet;
import java.util.regex.Pattern;
import java.util.stream.Collectors;

/** The face of the document and those rules of LANGUAGE.md that can be seen from outside or in the text. */
public final class FaceTest {
    private static final String[] NOT_IN_THE_TEXT = {
        "->", "::", "\\bcatch\\b", "\\btry\\b", "\\bfinally\\b", "\\bsynchronized\\b", "\\bassert\\b",
        "\\bpackage\\b", "static \\{", "Exact\\(", "\\bSystem\\.(out|err|in|nanoTime|currentTimeMillis)",
        "import (?!java\\.util\\.ArrayList;)"};

    public static void main(String[] args) throws IOException {
        face();
        members();
        nested();
        text();
        allocation();
        Check.end("FaceTest");
    }

    private static void face() throws IOException {
        Class<?> c = PilotStation.class;
        Check.due("final", Modifier.isFinal(c.getModifiers()), true);
        Constructor<?>[] made = c.getDeclaredConstructors();
        Check.due("constructors", made.length, 1);
        Check.due("constructor", Modifier.isPublic(made[0].getModifiers()) && made[0].getParameterCount() == 0, true);
        Set<String> open = new TreeSet<>();
        for (Method m : c.getDeclaredMethods()) {
            if (!Modifier.isPrivate(m.getModifiers())) {
                Check.due("public and of an object: " + m.getName(), m.getModifiers(), Modifier.PUBLIC);
                open.add(m.getReturnType() + " " + m.getName() + names(m.getParameterTypes(), "(", ")")
                        + names(m.getExceptionTypes(), " throws ", ""));
            }
        }
        Set<String> due = new TreeSet<>();
        for (Document.Method m : Document.face()) {
            due.add(m.types() + " throws " + String.join(",", m.exceptions()));
        }
        Check.due("the document's methods", due.size(), 22);
        Check.due("the methods " + open + " as the document's " + due, open.equals(due), true);
        Check.due("NONE", PilotStation.NONE, -1);
    }

    private static String names(Class<?>[] types, String before, String behind) {
        return Arrays.stream(types).map(Class::getSimpleName).collect(Collectors.joining(",", before, behind));
    }

    private static void members() throws IOException {
        Set<String> names = new HashSet<>();
        for (Document.Method method : Document.face()) {
            names.add(method.name());
        }
        for (Method m : PilotStation.class.getDeclaredMethods()) {
            boolean hides = Modifier.isPrivate(m.getModifiers()) && names.contains(m.getName());
            Check.due("a private method with a public name: " + m.getName(), hides, false);
        }
        for (Field f : PilotStation.class.getDeclaredFields()) {
            boolean isNone = f.getName().equals("NONE");
            Check.due("visible field " + f.getName(), !Modifier.isPrivate(f.getModifiers()), isNone);
        }
    }

    private static void nested() {
        Class<?>[] inside = PilotStation.class.getDeclaredClasses();
        Check.due("at most some twelve classes", inside.length <= 12, true);
        for (Class<?> c : inside) {
            boolean closed = !Modifier.isPublic(c.getModifiers()) && !Modifier.isProtected(c.getModifiers());
            Check.due("class inside " + c.getName(), closed && Modifier.isStatic(c.getModifiers()), true);
            fields(c);
            parameters(c);
        }
        fields(PilotStation.class);
        parameters(PilotStation.class);
    }

    private static void parameters(Class<?> c) {
        for (Method m : c.getDeclaredMethods()) {
            Check.due("at most seven parameters: " + m, m.getParameterCount() <= 7, true);
        }
        for (Constructor<?> made : c.getDeclaredConstructors()) {
            Check.due("at most seven parameters: " + made, made.getParameterCount() <= 7, true);
        }
    }

    private static void fields(Class<?> c) {
        int own = 0;
        for (Field f : c.getDeclaredFields()) {
            boolean isStatic = Modifier.isStatic(f.getModifiers());
            Check.due("static and final: " + f, !isStatic || Modifier.isFinal(f.getModifiers()), true);
            own += isStatic ? 0 : 1;
        }
        Check.due("at most some twenty fields in " + c.getName(), own <= 20, true);
    }

    private static void text() throws IOException {
        String text = Files.readString(Path.of("src/main/java/PilotStation.java"));
        String code = text.replaceAll("(?s)/\\*.*?\\*/", "").replaceAll("//[^\n]*", "");
        for (String sign : NOT_IN_THE_TEXT) {
            Check.due("in the text: " + sign, Pattern.compile(sign).matcher(code).find(), false);
        }
        Check.due("plain signs alone", text.chars().allMatch(sign -> sign == '\n' || (sign >= 32 && sign < 127)), true);
    }

    /** hour() is the dearest call, and nothing that it makes may be needed anew each time. */
    private static void allocation() {
        com.sun.management.ThreadMXBean bean =
                (com.sun.management.ThreadMXBean) java.lang.management.ManagementFactory.getThreadMXBean();
        long thread = Thread.currentThread().getId();
        long before = bean.getThreadAllocatedBytes(thread);
        PilotStation x = Check.openFor(3);
        for (int p = 0; p < 60; p++) {
            x.pilot(3, 1, 1);
        }
        for (int s = 0; s < 300; s++) {
            x.ship(true, 1 + s, 1, 0, s % 2 - 2, true);
        }
        Check.hours(x, 70);
        long used = bean.getThreadAllocatedBytes(thread) - before;
        Check.due("asked so many", x.count(14) > 10000, true);
        Check.due("bytes made in a full run: " + used, used < 500000, true);
    }
}
