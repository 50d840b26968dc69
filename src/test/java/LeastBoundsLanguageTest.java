import java.io.IOException;
import java.lang.reflect.Array;
import java.lang.reflect.Executable;
import java.lang.reflect.Field;
import java.lang.reflect.Method;
import java.lang.reflect.Modifier;
import java.nio.file.Files;
import java.nio.file.Path;
import java.util.ArrayList;
import java.util.HashMap;
import java.util.HashSet;
import java.util.List;
import java.util.Map;
import java.util.Set;
import java.util.TreeSet;
import java.util.regex.Matcher;
import java.util.regex.Pattern;

/**
 * The rules of LANGUAGE.md, as far as they can be read off the source file and the compiled class.
 * Run from the project's folder. Methods of one name count as one, which can only make a chain of calls longer.
 */
public final class LeastBoundsLanguageTest extends Checks {
    private static final Path SOURCE = Path.of("src/main/java/LeastBounds.java");
    private static final String THROWN = "IllegalStateException|IllegalArgumentException|IndexOutOfBoundsException";
    private static final Set<String> RECURSIVE =
        Set.of("liesBelow", "hasFittingPart", "liesBelowParts", "upperBound", "boundByClasses", "boundArgument");

    private static final List<Class<?>> CLASSES = new ArrayList<>();
    private static final Map<String, List<String>> BODIES = new HashMap<>();
    private static final Set<String> CONSTRUCTORS = new HashSet<>();
    private static String code = "";

    public static void main(String[] args) throws IOException, IllegalAccessException {
        CLASSES.add(LeastBounds.class);
        CLASSES.addAll(List.of(LeastBounds.class.getDeclaredClasses()));
        for (Class<?> each : CLASSES) {
            CONSTRUCTORS.add(each.getSimpleName());
        }
        code = Files.readString(SOURCE).replaceAll("(?s)/\\*.*?\\*/", "").replaceAll("//[^\n]*", "");
        readBodies();
        theFace();
        classesInside();
        theLibrary();
        staticFields();
        exceptions();
        wordsThatAreOut();
        recursion();
        loops();
        lengths();
        whatIsMade();
        theRoom();
        end();
    }

    /** A body lies between a line that ends in a brace and the brace under that line's first letter. */
    private static void readBodies() {
        Pattern head = Pattern.compile("( {4}| {8})(?:(?:public|private|static|final) )*(?:[\\w\\[\\]]+ )?(\\w+)\\([^()]*\\).* ?\\{");
        String name = "";
        String last = "";
        for (String line : code.split("\n")) {
            Matcher found = head.matcher(line);
            if (last.isEmpty() && found.matches()) {
                name = found.group(2);
                last = found.group(1) + "}";
                BODIES.computeIfAbsent(name, key -> new ArrayList<>()).add("");
            } else if (line.equals(last)) {
                last = "";
            } else if (!last.isEmpty()) {
                List<String> bodies = BODIES.get(name);
                bodies.set(bodies.size() - 1, bodies.get(bodies.size() - 1) + line + "\n");
            }
        }
        sentence("every method of the class is read");
        for (Class<?> each : CLASSES) {
            for (Method method : each.getDeclaredMethods()) {
                is(method.getName(), BODIES.containsKey(method.getName()), true);
            }
        }
        is("the last body ends", last.isEmpty(), true);
    }

    private static void theFace() {
        sentence("1. no other public, protected or package-visible member, but for the classes inside it");
        TreeSet<String> open = new TreeSet<>();
        for (Field field : LeastBounds.class.getDeclaredFields()) {
            if (!Modifier.isPrivate(field.getModifiers())) {
                open.add(field.getName());
            }
        }
        same("the open fields", open.toString(), "[NONE, PARAMETER]");
        sentence("1. No private method bears the name of a public one.");
        Set<String> face = new HashSet<>();
        for (Method method : LeastBounds.class.getMethods()) {
            face.add(method.getName());
        }
        for (Class<?> each : CLASSES) {
            for (Method method : each.getDeclaredMethods()) {
                boolean isPublic = Modifier.isPublic(method.getModifiers());
                is(each.getSimpleName() + "." + method.getName(), !isPublic && face.contains(method.getName()), false);
            }
        }
        is("no package line", code.contains("package "), false);
    }

    private static void classesInside() {
        sentence("1. the classes inside it, which are private or package-visible and static");
        for (Class<?> each : LeastBounds.class.getDeclaredClasses()) {
            int modifiers = each.getModifiers();
            is(each.getSimpleName() + " static", Modifier.isStatic(modifiers), true);
            is(each.getSimpleName() + " open", Modifier.isPublic(modifiers) || Modifier.isProtected(modifiers), false);
        }
        sentence("11. the file has at most some twelve classes, and a class some twenty fields beside its constants");
        is("classes", CLASSES.size() <= 12, true);
        for (Class<?> each : CLASSES) {
            int fields = 0;
            for (Field field : each.getDeclaredFields()) {
                fields += one(!Modifier.isStatic(field.getModifiers()));
            }
            is("fields of " + each.getSimpleName(), fields <= 20, true);
        }
    }

    private static void theLibrary() {
        sentence("4. The library: only what stands here.");
        same("imports", all("import ([^;]+);").toString(), "[java.util.Arrays]");
        Set<String> allowed = Set.of("Math.max", "Math.min", "Integer.bitCount", "Arrays.fill", "Arrays.copyOf", "System.arraycopy");
        for (String call : all("\\b([A-Z]\\w*\\.\\w+)\\(")) {
            is(call, allowed.contains(call), true);
        }
        sentence("3. Types: int, long, short, byte, char, boolean, double, float; arrays of these and of your own classes");
        for (Class<?> each : CLASSES) {
            for (Field field : each.getDeclaredFields()) {
                Class<?> type = field.getType().isArray() ? field.getType().getComponentType() : field.getType();
                is(field.getName(), type.isPrimitive() || CLASSES.contains(type), true);
            }
        }
    }

    private static void staticFields() throws IllegalAccessException {
        sentence("5. Static fields are final: constants of int, long, boolean, char or String");
        for (Class<?> each : CLASSES) {
            for (Field field : each.getDeclaredFields()) {
                if (Modifier.isStatic(field.getModifiers())) {
                    is(field.getName(), Modifier.isFinal(field.getModifiers()) && field.getType() == int.class, true);
                }
            }
        }
        is("no static initialiser", Pattern.compile("static\\s*\\{").matcher(code).find(), false);
    }

    private static void exceptions() {
        sentence("6. Exceptions: throw new E() or throw new E(\"a written text\")");
        Pattern written = Pattern.compile("throw new (" + THROWN + ")\\(\"[^\"]*\"\\);");
        is("throws", all("(\\bthrow\\b)").size(), count(written));
        sentence("6. no throw in a constructor");
        for (String name : CONSTRUCTORS) {
            for (String body : BODIES.getOrDefault(name, List.of())) {
                is(name, body.contains("throw"), false);
            }
        }
    }

    private static void wordsThatAreOut() {
        sentence("2. no lambda, no method reference; 6. No finally, No synchronized, assert; 7. only by a throw statement");
        for (String word : List.of("->", "::", "\"\"\"")) {
            is(word, code.contains(word), false);
        }
        for (String word : List.of("try", "catch", "finally", "synchronized", "assert", "instanceof", "Object", "equals", "hashCode", "toString",
            "var", "native", "volatile", "Thread", "Random", "nanoTime", "currentTimeMillis", "out", "err", "in", "getenv")) {
            is(word, Pattern.compile("\\b" + word + "\\b").matcher(code).find(), false);
        }
    }

    private static void recursion() {
        sentence("8. Recursion: the depth is carried as an argument, and the code refuses what would go deeper.");
        for (String name : BODIES.keySet()) {
            Set<String> reached = new HashSet<>();
            reach(name, reached);
            is(name + " comes back to itself", reached.contains(name), RECURSIVE.contains(name));
        }
        is("BELOW refuses", code.contains("if (levels <= 0) {"), true);
        is("bounds of bounds refuse", code.contains("if (toDepth < 0 || toDepth > MOST_DEPTH) {"), true);
        sentence("11. calls that are no recursion go at most eight deep");
        for (String name : BODIES.keySet()) {
            int deepest = deepest(name, new HashSet<>());
            is(name + " goes " + deepest + " deep", deepest <= 8, true);
        }
    }

    private static void reach(String from, Set<String> reached) {
        for (String to : callsOf(from)) {
            if (reached.add(to)) {
                reach(to, reached);
            }
        }
    }

    private static int deepest(String from, Set<String> open) {
        int most = 0;
        open.add(from);
        for (String to : callsOf(from)) {
            if (!open.contains(to)) {
                most = Math.max(most, deepest(to, open));
            }
        }
        open.remove(from);
        return most + 1;
    }

    private static Set<String> callsOf(String name) {
        Set<String> calls = new TreeSet<>();
        for (String body : BODIES.get(name)) {
            Matcher call = Pattern.compile("\\b(\\w+)\\(").matcher(body);
            while (call.find()) {
                if (BODIES.containsKey(call.group(1))) {
                    calls.add(call.group(1));
                }
            }
        }
        return calls;
    }

    private static void loops() {
        sentence("9. Every loop has an end that can be seen from its own lines");
        for (String loop : all("\\b((?:for|while) \\(.*)\\{")) {
            boolean counts = loop.matches("for \\(int \\w+ = \\w+; .*\\w+ < [\\w.\\[\\]]+.*; \\w+\\+\\+\\) ");
            is(loop, counts || loop.startsWith("while (layers < MOST_MADE_OF && "), true);
        }
        is("do", Pattern.compile("\\bdo\\b").matcher(code).find(), false);
    }

    private static void lengths() {
        sentence("11. A method takes at most seven parameters. Methods stay short (some sixty lines)");
        for (Class<?> each : CLASSES) {
            for (Executable method : each.getDeclaredMethods()) {
                is(method.getName(), method.getParameterCount() <= 7, true);
            }
        }
        for (Map.Entry<String, List<String>> each : BODIES.entrySet()) {
            for (String body : each.getValue()) {
                is(each.getKey(), body.split("\n").length <= 60, true);
            }
        }
    }

    private static void whatIsMade() {
        sentence("12. What a run makes is counted: keep it small");
        for (Map.Entry<String, List<String>> each : BODIES.entrySet()) {
            for (String body : each.getValue()) {
                boolean makes = body.replaceAll("throw new", "").matches("(?s).*\\bnew\\b.*");
                is(each.getKey() + " makes an object or array", makes && !CONSTRUCTORS.contains(each.getKey()), false);
            }
        }
        is("copies", count(Pattern.compile("Arrays\\.copyOf")), 1);
    }

    /** All that an object keeps that has told as many parts of intersections as its types and calls allow, or nearly so. */
    private static void theRoom() throws IllegalAccessException {
        sentence("All calls of one run live in ONE room: some 600,000 objects and arrays, 7.3 million fields and elements in all");
        int faces = 17;
        LeastBounds x = new LeastBounds(2);
        int[] upTo = new int[faces];
        int[] from = new int[faces];
        for (int i = 0; i < faces; i++) {
            upTo[i] = x.named(x.declare(true, false), 0, 0);
            from[i] = upTo[i];
        }
        for (int i = 1; i < faces; i++) {
            upTo[i] = x.lower(upTo[i - 1], upTo[i]);
            from[faces - 1 - i] = x.lower(from[faces - 1 - i], from[faces - i]);
        }
        int compares = x.named(COMPARES, EXACT, 8);
        for (int i = 0; i < faces; i++) {
            for (int j = i + 2; j < faces && x.told(2) < 299; j++) {
                x.lower(x.lower(upTo[i], from[j]), compares);
            }
        }
        is("types", x.told(2) >= 290, true);
        int[] counts = new int[2];
        keep(x, counts);
        is("objects and arrays: " + counts[0], counts[0] < 40, true);
        is("fields and elements: " + counts[1], counts[1] < 20_000, true);
    }

    private static void keep(Object object, int[] counts) throws IllegalAccessException {
        counts[0]++;
        if (object.getClass().isArray()) {
            counts[1] += Array.getLength(object);
            return;
        }
        for (Field field : object.getClass().getDeclaredFields()) {
            if (!Modifier.isStatic(field.getModifiers())) {
                counts[1]++;
                field.setAccessible(true);
                if (!field.getType().isPrimitive()) {
                    keep(field.get(object), counts);
                }
            }
        }
    }

    private static List<String> all(String pattern) {
        List<String> found = new ArrayList<>();
        Matcher matcher = Pattern.compile(pattern).matcher(code);
        while (matcher.find()) {
            found.add(matcher.group(1));
        }
        return found;
    }

    private static int count(Pattern pattern) {
        return (int) pattern.matcher(code).results().count();
    }
}
