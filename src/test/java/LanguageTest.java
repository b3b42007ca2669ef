import java.io.IOException;
import java.lang.reflect.Array;
import java.lang.reflect.Constructor;
import java.lang.reflect.Field;
import java.lang.reflect.Method;
import java.lang.reflect.Modifier;
import java.nio.file.Files;
import java.nio.file.Path;
import java.util.ArrayList;
import java.util.Arrays;
import java.util.Collections;
import java.util.IdentityHashMap;
import java.util.List;
import java.util.Set;
import java.util.TreeSet;
import java.util.regex.Matcher;
import java.util.regex.Pattern;

/** The public face of the document, and those rules of LANGUAGE.md that can be seen from outside. */
public final class LanguageTest {
    private static final String SOURCE = "src/main/java/GeodesicCutter.java";
    private static final Pattern METHOD =
            Pattern.compile("( {4}| {8})(?!if|for|while|switch)\\w[\\w\\[\\] ]*\\(.*\\) \\{");
    private static final int MOST_LINES = 60;
    /** So a run of some three hundred objects stays in its room: 600,000 of them, 7.3 million elements. */
    private static final int MOST_OBJECTS = 100;
    private static final int MOST_ELEMENTS = 20_000;
    private static final String[] FACE = {
        "split(int)", "setRadius(int)", "cutAt(int)", "setStock(int,int)", "count(int)", "undo()",
        "hub(int,int)", "hubAt(int,int,int)", "joined(int,int)", "led(int,int)", "way(int,int)",
        "strut(int,int)", "strutOf(int,int)", "kind(int,int)", "face(int,int)", "lose(int)", "put(int)",
        "mend()", "worst()", "stock(int)", "radiusFor(int)", "type(int)", "clearText()", "fault(int)",
        "loseAll()"
    };
    private static final String[] BANNED = {
        "\\bthrow\\b", "\\bthrows\\b", "\\btry\\b", "\\bcatch\\b", "\\bfinally\\b", "\\bsynchronized\\b",
        "\\bassert\\b", "->", "::", "\\bpackage\\b", "\\bvar\\b", "\\bfloat\\b", "\\bdouble\\b",
        "\\bSystem\\.(?!arraycopy\\b)", "\\bMath\\.\\w+Exact\\b", "\\bThread\\b", "\\bObject\\b",
        "\\b(Random|Scanner|HashMap|HashSet|Map|Set|Stream)\\b", "[^\\x00-\\x7f]"
    };

    private static String shown(Method method) {
        List<String> types = new ArrayList<>();
        for (Class<?> type : method.getParameterTypes()) {
            types.add(type.getName());
        }
        return method.getName() + "(" + String.join(",", types) + ")";
    }

    private static void face() {
        Class<?> cutter = GeodesicCutter.class;
        if (!Modifier.isFinal(cutter.getModifiers()) || !Modifier.isPublic(cutter.getModifiers())) {
            Check.fail("the class is not public and final");
        }
        Set<String> open = new TreeSet<>();
        for (Method method : cutter.getDeclaredMethods()) {
            if (!Modifier.isPrivate(method.getModifiers())) {
                open.add(shown(method));
                if (method.getReturnType() != int.class || !Modifier.isPublic(method.getModifiers())) {
                    Check.fail(shown(method) + " is not a public int");
                }
            }
        }
        if (!open.equals(new TreeSet<>(Arrays.asList(FACE)))) {
            Check.fail("the face is " + open);
        }
        Constructor<?>[] constructors = cutter.getDeclaredConstructors();
        if (constructors.length != 1 || constructors[0].getParameterCount() != 0
                || !Modifier.isPublic(constructors[0].getModifiers())) {
            Check.fail("the constructors are " + Arrays.toString(constructors));
        }
    }

    private static void constants() {
        Check.due("INVALID_ARGUMENT", GeodesicCutter.INVALID_ARGUMENT, -1001);
        Check.due("NOT_POSSIBLE", GeodesicCutter.NOT_POSSIBLE, -1002);
        Check.due("LIMIT_REACHED", GeodesicCutter.LIMIT_REACHED, -1003);
        Check.due("NOT_FOUND", GeodesicCutter.NOT_FOUND, -1004);
        Set<String> open = new TreeSet<>();
        for (Field field : GeodesicCutter.class.getDeclaredFields()) {
            int is = field.getModifiers();
            if (Modifier.isStatic(is) && !Modifier.isFinal(is)) {
                Check.fail("the static field " + field.getName() + " is not final");
            }
            if (!Modifier.isPrivate(is)) {
                open.add(field.getName());
            }
        }
        Set<String> due = Set.of("INVALID_ARGUMENT", "NOT_POSSIBLE", "LIMIT_REACHED", "NOT_FOUND");
        if (!open.equals(due)) {
            Check.fail("the constants are " + open);
        }
    }

    private static void classesInside() {
        Set<String> names = new TreeSet<>();
        for (String shown : FACE) {
            names.add(shown.substring(0, shown.indexOf('(')));
        }
        Class<?>[] inside = GeodesicCutter.class.getDeclaredClasses();
        if (inside.length > 11) {
            Check.fail("there are " + inside.length + " classes inside");
        }
        for (Class<?> nested : inside) {
            int is = nested.getModifiers();
            if (!Modifier.isStatic(is) || Modifier.isPublic(is) || Modifier.isProtected(is)) {
                Check.fail(nested.getName() + " is not private and static");
            }
            if (nested.getDeclaredFields().length > 20) {
                Check.fail(nested.getName() + " has too many fields");
            }
            for (Method method : nested.getDeclaredMethods()) {
                if (names.contains(method.getName()) || method.getParameterCount() > 7) {
                    Check.fail(nested.getName() + "." + method.getName());
                }
            }
        }
    }

    private static String withoutComments(String source) {
        return source.replaceAll("(?s)/\\*.*?\\*/", "").replaceAll("//[^\n]*", "");
    }

    private static void source() throws IOException {
        String code = withoutComments(Files.readString(Path.of(SOURCE)));
        for (String banned : BANNED) {
            Matcher matcher = Pattern.compile(banned).matcher(code);
            if (matcher.find()) {
                Check.fail("the source has '" + matcher.group() + "'");
            }
        }
        Matcher imports = Pattern.compile("\\bimport\\s+([^;]+);").matcher(code);
        while (imports.find()) {
            if (!imports.group(1).equals("java.util.Arrays")) {
                Check.fail("the source imports " + imports.group(1));
            }
        }
    }

    /** Methods end with a brace that stands as far in as their first line. */
    private static void lengthsOfMethods() throws IOException {
        List<String> lines = Files.readAllLines(Path.of(SOURCE));
        for (int first = 0; first < lines.size(); first++) {
            Matcher method = METHOD.matcher(lines.get(first));
            if (!method.matches()) {
                continue;
            }
            int last = first + lines.subList(first, lines.size()).indexOf(method.group(1) + "}");
            if (last <= first || last - first + 1 > MOST_LINES) {
                Check.fail("too long: " + lines.get(first).trim());
            }
        }
    }

    /** All is made with the object: nothing is made but in what a field begins with, and in History(). */
    private static void madeInConstructors() throws IOException {
        for (String line : withoutComments(Files.readString(Path.of(SOURCE))).split("\n")) {
            boolean isField = line.matches(" +(private )?final \\S+ \\w+ = new .*;");
            boolean isHistory = line.trim().equals("states[i] = new State();");
            if (line.matches(".*\\b(new|clone|copyOf|copyOfRange)\\b.*") && !isField && !isHistory) {
                Check.fail("a call makes something: " + line.trim());
            }
        }
    }

    private static void roomOfOneObject() throws IllegalAccessException {
        Set<Object> found = Collections.newSetFromMap(new IdentityHashMap<>());
        long elements = elementsOf(new GeodesicCutter(), found);
        if (found.size() > MOST_OBJECTS || elements > MOST_ELEMENTS) {
            Check.fail("an object takes " + found.size() + " objects and arrays with " + elements + " elements");
        }
    }

    private static long elementsOf(Object object, Set<Object> found) throws IllegalAccessException {
        if (object == null || !found.add(object)) {
            return 0;
        }
        long elements = 0;
        int length = object.getClass().isArray() ? Array.getLength(object) : 0;
        for (int i = 0; i < length; i++) {
            elements += 1 + (object instanceof Object[] row ? elementsOf(row[i], found) : 0);
        }
        for (Field field : object.getClass().getDeclaredFields()) {
            if (!Modifier.isStatic(field.getModifiers())) {
                field.setAccessible(true);
                elements += 1 + (field.getType().isPrimitive() ? 0 : elementsOf(field.get(object), found));
            }
        }
        return elements;
    }

    public static void main(String[] args) throws IOException, IllegalAccessException {
        face();
        constants();
        classesInside();
        source();
        lengthsOfMethods();
        madeInConstructors();
        roomOfOneObject();
        Check.end();
    }
}
