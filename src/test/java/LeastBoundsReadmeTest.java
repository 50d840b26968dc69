import java.io.IOException;
import java.lang.reflect.Method;
import java.nio.file.Files;
import java.nio.file.Path;

/** README.md's example, line by line, with the answers that its comments tell. Run from the project's folder. */
public final class LeastBoundsReadmeTest extends Checks {
    private static final String SOURCE = "src/test/java/LeastBoundsReadmeTest.java";

    public static void main(String[] args) throws IOException {
        sentence("README.md says how to use the class and how to run its tests.");
        example();
        String shown = codeBetween("README.md", "```java", "```");
        String run = codeBetween(SOURCE, "// the example begins", "// the example ends");
        is("README.md has an example", shown.isEmpty(), false);
        same("the example that is run here", run, shown);
        tellsEveryCall();
        end();
    }

    private static void example() {
        // the example begins
        LeastBounds x = new LeastBounds(1);
        int list = x.declare(true, true);
        int row = x.declare(false, true);
        x.above(list, LeastBounds.PARAMETER);

        int number = x.named(4, 0, 0);
        int one = x.named(row, 1, x.box(4));
        int other = x.named(row, 1, x.box(5));
        int numbers = x.named(list, 2, number);
        boolean holds = x.isBelow(one, numbers);
        int found = x.look(one, list);

        int bound = x.upper(one, other);
        int how = x.type(bound, 2);
        int inner = x.type(bound, 3);
        int parts = x.type(inner, 4);
        int second = x.part(inner, 1);

        int clones = x.named(1, 0, 0);
        int both = x.lower(clones, numbers);
        int none = x.lower(number, x.box(0));
        // the example ends
        is("class 13, a generic face", list, 13);
        is("class 14, a generic class", row, 14);
        is("row of P is below list of P", x.direct(row, 1, 1), PARAMETER);
        is("isBelow", holds, true);
        is("list of exactly the box of primitive 4", found, x.named(list, EXACT, 12));
        is("row bounded", x.type(bound, 1), row);
        is("2, bounded", how, BOUNDED);
        is("an intersection", x.type(inner, 0), 3);
        is("2", parts, 2);
        is("by COMPARES", x.type(x.part(inner, 0), 1), COMPARES);
        is("NUMBER again", second, number);
        is("the intersection of two faces", x.type(both, 0), 3);
        is("NONE", none, NONE);
    }

    private static void tellsEveryCall() throws IOException {
        String readme = Files.readString(Path.of("README.md"));
        for (Method method : LeastBounds.class.getMethods()) {
            if (method.getDeclaringClass() == LeastBounds.class) {
                is("README.md tells of " + method.getName(), readme.contains("`" + method.getName() + "("), true);
            }
        }
    }

    /** The code between two lines, without comments, empty lines and the space ahead of it. */
    private static String codeBetween(String file, String begin, String end) throws IOException {
        StringBuilder code = new StringBuilder();
        boolean inside = false;
        for (String line : Files.readAllLines(Path.of(file))) {
            String words = line.strip();
            if (words.equals(inside ? end : begin)) {
                inside = !inside;
                continue;
            }
            int comment = words.indexOf("//");
            String left = (comment < 0 ? words : words.substring(0, comment)).strip();
            if (inside && !left.isEmpty()) {
                code.append(left).append('\n');
            }
        }
        return code.toString();
    }
}
