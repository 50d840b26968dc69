import java.util.function.Supplier;
import java.util.function.ToIntFunction;

/**
 * All that an object tells of itself, as a text. An object is promised for 512 calls alone, so every few
 * questions are asked of a new one, made by the same calls.
 */
final class States {
    private static final int MOST_QUESTIONS = 60;

    private States() {
    }

    static String of(Supplier<LeastBounds> made) {
        StringBuilder all = new StringBuilder();
        LeastBounds x = made.get();
        int classes = x.told(0);
        int types = x.told(2);
        all.append(classes).append(' ').append(x.told(1)).append(' ').append(types).append(' ').append(x.told(3));
        for (int named = 0; named < classes; named++) {
            tellClass(all.append("\nclass ").append(named), made.get(), named, classes);
        }
        for (int type = 0; type < types; type++) {
            tellType(all.append("\ntype ").append(type), made.get(), type, Math.min(types, MOST_QUESTIONS));
        }
        all.append("\nnext");
        next(all, made, y -> y.declare(false, false));
        next(all, made, y -> y.declare(true, true));
        next(all, made, y -> y.above(Checks.CLONES, Checks.NONE));
        next(all, made, y -> y.array(types - 1));
        next(all, made, y -> y.upper(9, 10));
        next(all, made, y -> y.named(Checks.COMPARES, Checks.BOUNDED, types - 1));
        tellNewTypes(all.append("\nnew"), made.get(), types);
        return all.toString();
    }

    /** New types of each kind under the next numbers: nothing of a refused call may be left there. */
    private static void tellNewTypes(StringBuilder all, LeastBounds x, int types) {
        try {
            x.array(0);
            x.array(1);
            x.array(2);
            x.named(Checks.CLONES, 0, 0);
            x.named(Checks.COMPARES, Checks.EXACT, 12);
            x.lower(x.named(Checks.CLONES, 0, 0), x.named(Checks.COMPARES, Checks.EXACT, 12));
        } catch (IllegalStateException e) {
            all.append(" full");
        }
        int count = x.told(2);
        for (int type = types; type < count; type++) {
            tellType(all.append("\ntype ").append(type), x, type, 16);
        }
    }

    private static void tellClass(StringBuilder all, LeastBounds x, int named, int classes) {
        for (int what = 0; what <= 3; what++) {
            all.append(' ').append(x.classed(named, what));
        }
        for (int i = 0; i < x.classed(named, 2); i++) {
            all.append(" (").append(x.direct(named, i, 0)).append(' ').append(x.direct(named, i, 1)).append(')');
        }
        all.append(' ');
        for (int other = 0; other < classes; other++) {
            all.append(x.isUnder(named, other) ? '1' : '0');
        }
    }

    private static void tellType(StringBuilder all, LeastBounds x, int type, int others) {
        for (int what = 0; what <= 5; what++) {
            all.append(' ').append(x.type(type, what));
        }
        all.append(" (");
        for (int i = 0; i < x.type(type, 4); i++) {
            all.append(' ').append(x.part(type, i));
        }
        all.append(") ");
        for (int other = 0; other < others; other++) {
            all.append(x.isBelow(type, other) ? '1' : '0');
        }
    }

    /** What the next call that changes something would answer. */
    private static void next(StringBuilder all, Supplier<LeastBounds> made, ToIntFunction<LeastBounds> call) {
        try {
            all.append(' ').append(call.applyAsInt(made.get()));
        } catch (IllegalStateException e) {
            all.append(" refused");
        }
    }
}
