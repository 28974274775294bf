import java.io.IOException;
import java.lang.reflect.Constructor;
import java.lang.reflect.Field;
import java.lang.reflect.Method;
import java.lang.reflect.Modifier;
import java.nio.file.Files;
import java.nio.file.Path;
import java.util.ArrayList;
import java.util.Arrays;
import java.util.HashSet;
import java.util.List;
import java.util.Set;
import java.util.TreeSet;

/** The public face, and those rules of LANGUAGE.md that can be seen by reflection or in the source's words. */
final class FaceTest {
    private static final String[] METHODS = {"set(int, int)", "mirror(int, int, int)", "take(int)", "aim(int, int)",
        "wash(int)", "wind(int)", "pass(int)", "of(int, int)", "at(int, int, int)", "point(int, int, int)",
        "count(int)", "in(int, int)", "worthLeast(int)", "bestColumn(int, int, int)", "toWash()", "leastLimit()",
        "put(long)", "wipe()", "fault()", "carryOut()", "undo()", "save(int)", "restore(int)"};
    private static final String[] FORBIDDEN = {"throw", "throws", "try", "catch", "finally", "synchronized", "assert",
        "protected", "native", "volatile", "float", "double", "Object", "equals", "hashCode", "Exception", "Random",
        "Thread", "nanoTime", "currentTimeMillis", "println", "yield", "var"};

    public static void main(String[] args) throws IOException {
        constants();
        face();
        classesInside();
        source(Files.readString(Path.of("src/main/java/SunMirrors.java")));
        Check.end("FaceTest");
    }

    private static void constants() {
        int[] got = {SunMirrors.NO_SUCH, SunMirrors.BAD_VALUE, SunMirrors.BAD_TEXT, SunMirrors.TOO_MANY,
            SunMirrors.NOT_POSSIBLE, SunMirrors.NONE, SunMirrors.LIMIT, SunMirrors.WIND, SunMirrors.DUST};
        int[] want = {-1, -2, -3, -4, -5, -6, 0, 1, 2};
        for (int index = 0; index < want.length; index++) {
            Check.due("constant " + index, got[index], want[index]);
        }
    }

    private static void face() {
        Class<?> type = SunMirrors.class;
        Check.holds("public and final", Modifier.isPublic(type.getModifiers()) && Modifier.isFinal(type.getModifiers()));
        Set<String> methods = new TreeSet<>();
        Set<String> names = new HashSet<>();
        for (Method method : type.getDeclaredMethods()) {
            if (!Modifier.isPrivate(method.getModifiers())) {
                String types = Arrays.toString(method.getParameterTypes());
                methods.add(method.getName() + "(" + types.substring(1, types.length() - 1) + ")");
                names.add(method.getName());
                Check.holds(method.getName() + " is public int", method.getReturnType() == int.class
                    && method.getModifiers() == Modifier.PUBLIC);
            }
        }
        Check.holds("the methods of the face: " + methods, methods.equals(new TreeSet<>(Arrays.asList(METHODS))));
        bearNoName(type, names);
        for (Class<?> inside : type.getDeclaredClasses()) {
            bearNoName(inside, names);
        }
        Constructor<?>[] constructors = type.getDeclaredConstructors();
        Check.holds("one public constructor", constructors.length == 1 && constructors[0].getParameterCount() == 0
            && Modifier.isPublic(constructors[0].getModifiers()));
        int open = 0;
        for (Field field : type.getDeclaredFields()) {
            open += Modifier.isPrivate(field.getModifiers()) ? 0 : 1;
        }
        Check.due("constants of the face", open, 9);
    }

    private static void bearNoName(Class<?> type, Set<String> names) {
        for (Method method : type.getDeclaredMethods()) {
            if (Modifier.isPrivate(method.getModifiers())) {
                Check.holds(method + " bears no public name", !names.contains(method.getName()));
            }
        }
    }

    private static void classesInside() {
        List<Class<?>> all = new ArrayList<>(Arrays.asList(SunMirrors.class.getDeclaredClasses()));
        for (Class<?> type : all) {
            Check.holds(type + " is private or package-visible and static", Modifier.isStatic(type.getModifiers())
                && !Modifier.isPublic(type.getModifiers()) && !Modifier.isProtected(type.getModifiers()));
            Check.due("classes in " + type, type.getDeclaredClasses().length, 0);
        }
        all.add(SunMirrors.class);
        Check.holds("12 classes at most", all.size() <= 12);
        for (Class<?> type : all) {
            int fields = 0;
            for (Field field : type.getDeclaredFields()) {
                boolean isStatic = Modifier.isStatic(field.getModifiers());
                Check.holds(field + " is final if static", !isStatic || Modifier.isFinal(field.getModifiers()));
                fields += isStatic ? 0 : 1;
            }
            Check.holds(type + " has 20 fields at most", fields <= 20);
            for (Method method : type.getDeclaredMethods()) {
                Check.holds(method + " takes 7 at most", method.getParameterCount() <= 7);
            }
        }
    }

    private static void source(String text) {
        for (String line : text.split("\n")) {
            if (line.startsWith("import ")) {
                Check.holds(line, line.equals("import java.util.Arrays;") || line.equals("import java.util.ArrayList;")
                    || line.equals("import java.util.List;"));
            }
        }
        String code = text.replaceAll("(?s)/\\*.*?\\*/", " ").replaceAll("//[^\n]*", " ");
        Set<String> words = new HashSet<>(Arrays.asList(code.split("[^A-Za-z0-9_]+")));
        for (String word : FORBIDDEN) {
            Check.holds("no " + word, !words.contains(word));
        }
        Check.holds("no lambda or method reference", !code.contains("->") && !code.contains("::"));
        for (String word : words) {
            Check.holds(word + " is no ..Exact", !word.endsWith("Exact"));
        }
        int longest = 0;
        int start = 0;
        String[] lines = text.split("\n");
        for (int number = 0; number < lines.length; number++) {
            if (lines[number].matches(" {4,8}[a-z].*\\) \\{")) {
                start = number;
            }
            if (lines[number].matches(" {4,8}\\}")) {
                longest = Math.max(longest, number - start);
                start = number;
            }
        }
        Check.holds("methods of 60 lines at most: " + longest, longest <= 60);
    }
}
