import java.util.function.IntSupplier;

/** What the tests do with an answer: count it, and print the wrong ones with the sentence that they break. */
abstract class Checks {
    static final int NONE = LeastBounds.NONE, PARAMETER = LeastBounds.PARAMETER;
    static final int ROOT = 0, CLONES = 1, WRITES = 2, COMPARES = 3, NUMBER = 4;
    static final int EXACT = 1, BOUNDED = 2;
    static final int BEYOND = Integer.MAX_VALUE, BEFORE = Integer.MIN_VALUE;
    private static String sentence = "";
    private static int checks = 0;
    private static int wrong = 0;

    /** The words of the document that the checks from here on hold to. */
    static void sentence(String words) {
        sentence = words;
    }

    static void is(String what, int got, int want) {
        checks++;
        if (got != want) {
            tell(what + " answered " + got + ", due is " + want);
        }
    }

    static void is(String what, boolean got, boolean want) {
        is(what, one(got), one(want));
    }

    static void same(String what, String got, String want) {
        checks++;
        if (!got.equals(want)) {
            tell(what + ": " + got + ", due is " + want);
        }
    }

    static void noIndex(String what, IntSupplier call) {
        refuses(what, IndexOutOfBoundsException.class, call);
    }

    static void noState(String what, IntSupplier call) {
        refuses(what, IllegalStateException.class, call);
    }

    static void noArgument(String what, IntSupplier call) {
        refuses(what, IllegalArgumentException.class, call);
    }

    static void refuses(String what, Class<?> want, IntSupplier call) {
        checks++;
        String got;
        try {
            got = "answered " + call.getAsInt();
        } catch (RuntimeException e) {
            if (e.getClass() == want) {
                return;
            }
            got = "threw " + e;
        }
        tell(what + " " + got + ", due is " + want.getSimpleName());
    }

    /** No exception but the document's three may come, whatever the arguments are. */
    static void onlyTold(IntSupplier call) {
        checks++;
        try {
            call.getAsInt();
        } catch (RuntimeException e) {
            Class<?> kind = e.getClass();
            if (kind != IndexOutOfBoundsException.class && kind != IllegalArgumentException.class && kind != IllegalStateException.class) {
                tell("a call threw " + e);
            }
        }
    }

    static int one(boolean answer) {
        return answer ? 1 : 0;
    }

    /** Makes arrays of the types from 8 on, one after the other, until there are so many types. */
    static LeastBounds fill(LeastBounds x, int count) {
        int types = x.told(2);
        for (int i = 8; types < count; i++) {
            types = Math.max(types, x.array(i) + 1);
        }
        return x;
    }

    /** A type made of so many, by arrays round the one given. */
    static int arrays(LeastBounds x, int type, int madeOf) {
        int at = type;
        for (int size = x.type(type, 5); size < madeOf; size++) {
            at = x.array(at);
        }
        return at;
    }

    private static void tell(String what) {
        wrong++;
        System.out.println(sentence.isEmpty() ? what : what + "\n    \"" + sentence + "\"");
    }

    static void end() {
        System.out.println(checks + " checks, " + wrong + " wrong");
        if (wrong != 0) {
            System.exit(1);
        }
    }
}
