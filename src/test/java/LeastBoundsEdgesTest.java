/** The boundary cases of the document's promises 1 to 17, a test for each sentence. */
public final class LeastBoundsEdgesTest extends Checks {
    public static void main(String[] args) {
        newObjectDepth();
        newObjectsAreApart();
        declareNumbers();
        declareFull();
        declareFullGeneric();
        aboveCounts();
        aboveInPlaceOfRoot();
        aboveArgument();
        aboveNoIndex();
        aboveFirst13();
        aboveItself();
        aboveFace();
        aboveSecondClass();
        aboveTwice();
        aboveNoArgument();
        aboveAnotherArgument();
        aboveAnotherArgumentOfParameters();
        aboveAnotherArgumentFarUp();
        namedHow();
        namedNotLookedAt();
        namedNoIndex();
        namedHowIsNotAsTheClassIs();
        namedTooMuch();
        arrayOfTypes();
        arrayTooMuch();
        upperToTheDepth();
        upperTooMuch();
        lowerNone();
        lowerTooMuch();
        isBelowChangesNothing();
        isBelowAfterAbove();
        lookNone();
        lookTooMuch();
        boxOfTypes();
        typeWithoutArgument();
        typeNoneWithout();
        typeParts();
        typeMadeOf();
        typeRefused();
        partFromZero();
        partRefused();
        commonCounts();
        commonRefused();
        isUnderEdges();
        classedCounts();
        classedRefused();
        directFromZero();
        directRefused();
        toldCounts();
        toldRefused();
        end();
    }

    private static void declareAll(LeastBounds x, boolean... faces) {
        for (boolean face : faces) {
            x.declare(face, false);
        }
    }

    // Promise 1

    private static void newObjectDepth() {
        sentence("a depth of bounds of bounds: below 0 counts as 0, above 2 as 2.");
        int[] depths = {BEFORE, -1, 0, 1, 2, 3, BEYOND};
        int[] counted = {0, 0, 0, 1, 2, 2, 2};
        int[] bounds = {19, 19, 19, 21, 23, 23, 23};
        for (int i = 0; i < depths.length; i++) {
            LeastBounds x = new LeastBounds(depths[i]);
            is("depth " + depths[i], x.told(3), counted[i]);
            is("a bound to depth " + depths[i], x.upper(9, 10), bounds[i]);
        }
    }

    private static void newObjectsAreApart() {
        sentence("The classes and types told");
        LeastBounds x = new LeastBounds(0);
        x.declare(true, true);
        x.array(0);
        x.upper(9, 10);
        LeastBounds y = new LeastBounds(1);
        is("classes", y.told(0), 13);
        is("generic ones", y.told(1), 1);
        is("types", y.told(2), 16);
        is("the first object's classes", x.told(0), 14);
    }

    // Promise 2

    private static void declareNumbers() {
        sentence("A class, or FACE, with none DIRECTLY ABOVE but ROOT (first): its number.");
        LeastBounds x = new LeastBounds(1);
        boolean[] both = {false, true};
        int number = 13;
        for (boolean face : both) {
            for (boolean generic : both) {
                is("number", x.declare(face, generic), number);
                is("face", x.classed(number, 0), one(face));
                is("generic", x.classed(number, 1), one(generic));
                is("one directly above", x.classed(number, 2), 1);
                is("root", x.direct(number, 0, 0), ROOT);
                is("without argument", x.direct(number, 0, 1), NONE);
                is("one above", x.classed(number, 3), 1);
                number++;
            }
        }
        x.above(CLONES, NONE);
        is("root stays first", x.direct(16, 0, 0), ROOT);
        is("no type is new", x.told(2), 16);
    }

    private static void declareFull() {
        sentence("IllegalState: there are 30 (or, a GENERIC one, six of these).");
        LeastBounds x = new LeastBounds(1);
        for (int i = 13; i < 29; i++) {
            x.declare(true, false);
        }
        is("the 30th may be generic", x.declare(false, true), 29);
        noState("the 31st", () -> x.declare(true, false));
        noState("the 31st, generic", () -> x.declare(true, true));
        is("30", x.told(0), 30);
        is("two generic ones", x.told(1), 2);
    }

    private static void declareFullGeneric() {
        sentence("IllegalState: there are 30 (or, a GENERIC one, six of these).");
        LeastBounds x = new LeastBounds(1);
        for (int i = 0; i < 5; i++) {
            is("generic", x.declare(false, true), 13 + i);
        }
        noState("the seventh generic class", () -> x.declare(false, true));
        is("is none", x.told(0), 18);
        for (int i = 18; i < 30; i++) {
            is("another", x.declare(true, false), i);
        }
        noState("generic, where both are full", () -> x.declare(true, true));
        noState("not generic, where both are full", () -> x.declare(true, false));
    }

    // Promise 3

    private static void aboveCounts() {
        sentence("The newest class gets one more DIRECTLY ABOVE: how many it has.");
        LeastBounds x = new LeastBounds(1);
        declareAll(x, true, true);
        is("a face's second", x.above(13, NONE), 2);
        is("third", x.above(CLONES, NONE), 3);
        is("fourth", x.above(COMPARES, 8), 4);
        int[] due = {ROOT, 13, CLONES, COMPARES};
        for (int i = 0; i < 4; i++) {
            is("in their order", x.direct(14, i, 0), due[i]);
        }
        is("just the newest", x.classed(13, 2), 1);
        is("no type is new", x.told(2), 16);
    }

    private static void aboveInPlaceOfRoot() {
        sentence("A class that gets a class has it in place of ROOT.");
        LeastBounds x = new LeastBounds(1);
        declareAll(x, false, false);
        is("one, as before", x.above(13, NONE), 1);
        is("in root's place", x.direct(14, 0, 0), 13);
        is("root is above all the same", x.isUnder(14, ROOT), true);
        is("two above", x.classed(14, 3), 2);
        declareAll(x, false);
        x.above(CLONES, NONE);
        x.above(WRITES, NONE);
        is("late, still three", x.above(14, NONE), 3);
        is("ahead of the faces", x.direct(15, 0, 0), 14);
        is("the first face", x.direct(15, 1, 0), CLONES);
        is("the second face", x.direct(15, 2, 0), WRITES);
        x.declare(false, true);
        x.declare(false, true);
        is("a generic class", x.above(16, PARAMETER), 1);
        is("with its argument", x.direct(17, 0, 1), PARAMETER);
    }

    private static void aboveArgument() {
        sentence("argument is a type, PARAMETER, or NONE (just if that class is not GENERIC).");
        LeastBounds x = new LeastBounds(1);
        x.declare(true, true);
        x.declare(true, true);
        is("the first type that is no primitive", x.above(COMPARES, 8), 2);
        is("PARAMETER", x.above(13, PARAMETER), 3);
        is("NONE", x.above(CLONES, NONE), 4);
        int[] due = {NONE, 8, PARAMETER, NONE};
        for (int i = 0; i < 4; i++) {
            is("told at " + i, x.direct(14, i, 1), due[i]);
        }
        x.declare(true, true);
        int last = x.array(0);
        is("the last type", x.above(13, last), 2);
        is("told", x.direct(15, 1, 1), last);
        x.declare(false, false);
        int own = x.named(16, 0, 0);
        is("its own type", x.above(COMPARES, own), 2);
        is("found so", x.isBelow(own, x.named(COMPARES, EXACT, own)), true);
    }

    private static void aboveNoIndex() {
        sentence("IndexOutOfBounds: the class; the argument, if it is above 0 or 0");
        LeastBounds x = new LeastBounds(1);
        x.declare(true, true);
        x.declare(true, true);
        for (int n : new int[] {BEFORE, -2, -1, 15, 30, BEYOND}) {
            noIndex("class " + n, () -> x.above(n, NONE));
        }
        for (int n : new int[] {16, 299, 300, BEYOND}) {
            noIndex("type " + n, () -> x.above(13, n));
            noIndex("type " + n + " for one that is not generic", () -> x.above(CLONES, n));
        }
        noArgument("below 0 it is no index", () -> x.above(13, -3));
        noArgument("far below 0", () -> x.above(13, BEFORE));
        noArgument("0 is there, a primitive", () -> x.above(13, 0));
        is("the last type is there", x.above(13, 15), 2);
    }

    private static void aboveFirst13() {
        sentence("IllegalState: the newest is one of the first 13");
        LeastBounds x = new LeastBounds(1);
        for (int above = 0; above < 13; above++) {
            int n = above;
            noState("above " + n, () -> x.above(n, n == COMPARES ? 8 : NONE));
        }
        is("nothing is above", x.classed(12, 2), 3);
        x.declare(true, false);
        is("the 14th", x.above(CLONES, NONE), 2);
    }

    private static void aboveItself() {
        sentence("above is the newest itself");
        LeastBounds x = new LeastBounds(1);
        declareAll(x, true);
        noState("a face", () -> x.above(13, NONE));
        x.declare(true, true);
        noState("a generic face, with its parameter", () -> x.above(14, PARAMETER));
        noState("with a type", () -> x.above(14, 8));
        declareAll(x, false);
        noState("a class", () -> x.above(15, NONE));
        is("still under root alone", x.classed(15, 3), 1);
    }

    private static void aboveFace() {
        sentence("that is a FACE, and above none");
        LeastBounds x = new LeastBounds(1);
        declareAll(x, false, true);
        noState("root", () -> x.above(ROOT, NONE));
        noState("number", () -> x.above(NUMBER, NONE));
        noState("a box", () -> x.above(5, NONE));
        noState("a class of one's own", () -> x.above(13, NONE));
        is("a face", x.above(CLONES, NONE), 2);
        declareAll(x, false);
        is("a class may", x.above(13, NONE), 1);
    }

    private static void aboveSecondClass() {
        sentence("it has a class, but ROOT, already, and above is no FACE");
        LeastBounds x = new LeastBounds(1);
        declareAll(x, false, false);
        is("the first class", x.above(13, NONE), 1);
        noState("a second one", () -> x.above(NUMBER, NONE));
        noState("root", () -> x.above(ROOT, NONE));
        noState("the same", () -> x.above(13, NONE));
        is("a face still goes", x.above(CLONES, NONE), 2);
        noState("a second one behind a face", () -> x.above(12, NONE));
        is("what it had", x.direct(14, 0, 0), 13);
    }

    private static void aboveTwice() {
        sentence("above is DIRECTLY ABOVE it already");
        LeastBounds x = new LeastBounds(1);
        declareAll(x, false);
        noState("root, which is there first", () -> x.above(ROOT, NONE));
        is("a face", x.above(WRITES, NONE), 2);
        noState("a face again", () -> x.above(WRITES, NONE));
        is("a generic face", x.above(COMPARES, 8), 3);
        noState("again with the same argument", () -> x.above(COMPARES, 8));
        noState("again with another", () -> x.above(COMPARES, 9));
        is("three", x.classed(13, 2), 3);
        declareAll(x, false);
        is("a class that has a face", x.above(13, NONE), 1);
        is("the face, which is not directly above yet", x.above(WRITES, NONE), 2);
    }

    private static void aboveNoArgument() {
        sentence("IllegalArgument: the argument is below PARAMETER, a primitive, NONE for a GENERIC one, not NONE for another, "
            + "PARAMETER where the newest is not GENERIC");
        LeastBounds x = new LeastBounds(1);
        x.declare(true, true);
        x.declare(true, false);
        noArgument("just below PARAMETER", () -> x.above(13, PARAMETER - 1));
        noArgument("far below PARAMETER", () -> x.above(13, BEFORE));
        noArgument("below PARAMETER for another", () -> x.above(CLONES, PARAMETER - 1));
        for (int primitive = 0; primitive < 8; primitive++) {
            int n = primitive;
            noArgument("a primitive", () -> x.above(13, n));
            noArgument("a primitive for another", () -> x.above(CLONES, n));
        }
        noArgument("NONE for a generic one", () -> x.above(13, NONE));
        noArgument("a type for another", () -> x.above(CLONES, 8));
        noArgument("PARAMETER for another", () -> x.above(CLONES, PARAMETER));
        noArgument("PARAMETER where the newest is not generic", () -> x.above(13, PARAMETER));
        is("nothing is above", x.classed(14, 2), 1);
        x.declare(true, true);
        noArgument("PARAMETER for another, where the newest is generic", () -> x.above(CLONES, PARAMETER));
        noArgument("NONE for a generic one, where the newest is generic", () -> x.above(13, NONE));
        is("PARAMETER where it is", x.above(13, PARAMETER), 2);
    }

    private static void aboveAnotherArgument() {
        sentence("then IllegalState: a GENERIC class that a LOOK finds in the newest would be found by this one, too, with "
            + "another ARGUMENT.");
        LeastBounds x = new LeastBounds(1);
        declareAll(x, false);
        is("a box", x.above(7, NONE), 1);
        noState("COMPARES with another", () -> x.above(COMPARES, 9));
        is("COMPARES with the same", x.above(COMPARES, 10), 2);
        declareAll(x, false);
        is("COMPARES first", x.above(COMPARES, 10), 2);
        noState("a box with another", () -> x.above(6, NONE));
        noState("it is not put in root's place", () -> x.above(8, NONE));
        is("root is there", x.direct(14, 0, 0), ROOT);
        is("number is none of these", x.above(NUMBER, NONE), 2);
        declareAll(x, false);
        x.above(COMPARES, 10);
        is("the class with the same", x.above(13, NONE), 2);
        is("the class is ahead of COMPARES", x.direct(15, 0, 0), 13);
    }

    private static void aboveAnotherArgumentOfParameters() {
        sentence("a GENERIC class that a LOOK finds in the newest would be found by this one, too, with another ARGUMENT.");
        LeastBounds x = new LeastBounds(1);
        x.declare(true, true);
        x.above(COMPARES, PARAMETER);
        x.declare(true, true);
        is("13 with a type", x.above(13, 8), 2);
        noState("COMPARES with the parameter", () -> x.above(COMPARES, PARAMETER));
        noState("COMPARES with another type", () -> x.above(COMPARES, 9));
        is("COMPARES with the same type", x.above(COMPARES, 8), 3);
        x.declare(true, true);
        is("COMPARES with the parameter", x.above(COMPARES, PARAMETER), 2);
        noState("13 with a type", () -> x.above(13, 8));
        noState("14, in which it is found with a type", () -> x.above(14, PARAMETER));
        is("13 with the parameter", x.above(13, PARAMETER), 3);
        declareAll(x, true);
        is("a type", x.above(15, 9), 2);
        noState("14, where COMPARES is with 8", () -> x.above(14, 9));
        is("13 with the same", x.above(13, 9), 3);
    }

    private static void aboveAnotherArgumentFarUp() {
        sentence("a GENERIC class that a LOOK finds in the newest would be found by this one, too, with another ARGUMENT.");
        LeastBounds x = new LeastBounds(1);
        declareAll(x, true, true);
        x.above(COMPARES, 8);
        declareAll(x, true);
        x.above(14, NONE);
        declareAll(x, true, true);
        x.above(COMPARES, 9);
        declareAll(x, false);
        is("by 15, over two", x.above(15, NONE), 2);
        noState("by 17 with another", () -> x.above(17, NONE));
        is("by 16 not at all", x.above(16, NONE), 3);
        noState("by itself with another", () -> x.above(COMPARES, 9));
        is("by itself with the same", x.above(COMPARES, 8), 4);
        is("by a box with the same", x.above(5, NONE), 4);
        // An array's bound is a type like others: alike is what has one number.
        declareAll(x, true);
        x.above(COMPARES, x.array(8));
        declareAll(x, true);
        x.above(COMPARES, x.array(8));
        is("alike arrays", x.above(19, NONE), 3);
    }

    // Promise 4

    private static void namedHow() {
        sentence("A NAMED type: how = 0 without ARGUMENT (the type is not looked at then), 1 EXACT, 2 BOUNDED.");
        LeastBounds x = new LeastBounds(1);
        is("without", x.named(ROOT, 0, 0), 16);
        is("exact", x.named(COMPARES, EXACT, 16), 17);
        is("bounded", x.named(COMPARES, BOUNDED, 16), 18);
        int[][] due = {{1, ROOT, 0, NONE, 1, 1}, {1, COMPARES, 1, 16, 1, 2}, {1, COMPARES, 2, 16, 1, 2}};
        for (int i = 0; i < 3; i++) {
            for (int what = 0; what <= 5; what++) {
                is("type " + (16 + i) + ", what " + what, x.type(16 + i, what), due[i][what]);
            }
        }
        is("of its own", x.named(COMPARES, BOUNDED, 18), 19);
        is("once only", x.named(COMPARES, BOUNDED, 16), 18);
    }

    private static void namedNotLookedAt() {
        sentence("(the type is not looked at then)");
        LeastBounds x = new LeastBounds(1);
        for (int n : new int[] {BEFORE, -2, -1, 0, 7, 8, 16, 300, BEYOND}) {
            is("with " + n, x.named(CLONES, 0, n), 16);
            noArgument("generic, with " + n, () -> x.named(COMPARES, 0, n));
        }
        is("one type", x.told(2), 17);
    }

    private static void namedNoIndex() {
        sentence("IndexOutOfBounds: the class, the type");
        LeastBounds x = new LeastBounds(1);
        for (int n : new int[] {BEFORE, -1, 13, 30, BEYOND}) {
            noIndex("class " + n, () -> x.named(n, 0, 0));
            noIndex("class " + n + ", exact", () -> x.named(n, EXACT, 8));
            noIndex("class " + n + ", how is none", () -> x.named(n, 3, BEYOND));
        }
        for (int n : new int[] {BEFORE, -2, -1, 16, 300, BEYOND}) {
            noIndex("type " + n + ", exact", () -> x.named(COMPARES, EXACT, n));
            noIndex("type " + n + ", bounded", () -> x.named(COMPARES, BOUNDED, n));
            noIndex("type " + n + ", not generic", () -> x.named(CLONES, EXACT, n));
            noIndex("type " + n + ", how below 0", () -> x.named(COMPARES, -1, n));
            noIndex("type " + n + ", how above 2", () -> x.named(CLONES, 3, n));
        }
    }

    private static void namedHowIsNotAsTheClassIs() {
        sentence("IllegalArgument: how is not as the class is, or the ARGUMENT a primitive; IllegalState.");
        LeastBounds x = new LeastBounds(1);
        for (int named = 0; named < 13; named++) {
            int n = named;
            if (n == COMPARES) {
                noArgument("0 for a generic one", () -> x.named(n, 0, 8));
            } else {
                noArgument("1 for another", () -> x.named(n, EXACT, 8));
                noArgument("2 for another", () -> x.named(n, BOUNDED, 8));
            }
            for (int how : new int[] {BEFORE, -1, 3, 5, BEYOND}) {
                noArgument("how " + how, () -> x.named(n, how, 8));
                noArgument("how " + how + " and a primitive", () -> x.named(n, how, 0));
            }
        }
        for (int primitive = 0; primitive < 8; primitive++) {
            int n = primitive;
            noArgument("an exact primitive", () -> x.named(COMPARES, EXACT, n));
            noArgument("a bounded primitive", () -> x.named(COMPARES, BOUNDED, n));
            noArgument("a primitive for another", () -> x.named(CLONES, EXACT, n));
        }
        is("none is new", x.told(2), 16);
    }

    private static void namedTooMuch() {
        sentence("or the ARGUMENT a primitive; IllegalState.");
        LeastBounds x = new LeastBounds(1);
        int argument = 8;
        for (int size = 2; size <= 100; size++) {
            argument = x.named(COMPARES, size % 2 == 0 ? EXACT : BOUNDED, argument);
        }
        int deep = argument;
        is("of 100", x.type(deep, 5), 100);
        noState("of 101, exact", () -> x.named(COMPARES, EXACT, deep));
        noState("of 101, bounded", () -> x.named(COMPARES, BOUNDED, deep));
        LeastBounds y = fill(new LeastBounds(1), 299);
        is("the 300th", y.named(CLONES, 0, 0), 299);
        noState("the 301st", () -> y.named(WRITES, 0, 0));
        noState("the 301st, exact", () -> y.named(COMPARES, EXACT, 8));
        is("one that is there", y.named(CLONES, 0, 0), 299);
        is("a box's", y.named(12, 0, 0), 15);
    }

    // Promise 5

    private static void arrayOfTypes() {
        sentence("The ARRAY of a type. IndexOutOfBounds; IllegalState.");
        LeastBounds x = new LeastBounds(1);
        int both = x.lower(x.named(CLONES, 0, 0), x.named(WRITES, 0, 0));
        for (int type : new int[] {0, 7, 8, 15, both, x.array(0)}) {
            int array = x.array(type);
            is("an array", x.type(array, 0), 2);
            is("of it", x.type(array, 3), type);
            is("made of one more", x.type(array, 5), x.type(type, 5) + 1);
            is("once", x.array(type), array);
        }
        int types = x.told(2);
        for (int n : new int[] {BEFORE, -1, types, BEYOND}) {
            noIndex("type " + n, () -> x.array(n));
        }
    }

    private static void arrayTooMuch() {
        sentence("The ARRAY of a type. IndexOutOfBounds; IllegalState.");
        LeastBounds x = new LeastBounds(1);
        int deep = arrays(x, 0, 100);
        is("of 100", x.type(deep, 5), 100);
        noState("of 101", () -> x.array(deep));
        is("the one below it", x.array(deep - 1), deep);
        LeastBounds y = fill(new LeastBounds(1), 300);
        noState("the 301st", () -> y.array(0));
        is("one that is there", y.array(8), 16);
        noIndex("the type first", () -> y.array(300));
    }

    // Promise 6

    private static void upperToTheDepth() {
        sentence("THE UPPER BOUND, to the depth told at first. IndexOutOfBounds; IllegalState.");
        for (int depth = 0; depth <= 2; depth++) {
            LeastBounds x = new LeastBounds(depth);
            int at = x.upper(9, 10);
            for (int left = depth; left >= 0; left--) {
                is("an intersection", x.type(at, 0), 3);
                is("of COMPARES", x.type(x.part(at, 0), 1), COMPARES);
                is("bounded", x.type(x.part(at, 0), 2), 2);
                is("and NUMBER", x.type(x.part(at, 1), 1), NUMBER);
                at = x.type(x.part(at, 0), 3);
            }
            is("by root", x.type(at, 1), ROOT);
            is("the same depth at the next call", x.upper(14, 15), x.upper(9, 10));
        }
    }

    private static void upperTooMuch() {
        sentence("THE UPPER BOUND, to the depth told at first. IndexOutOfBounds; IllegalState.");
        LeastBounds x = fill(new LeastBounds(1), 295);
        noState("room for five of six", () -> x.upper(9, 10));
        is("none is new", x.told(2), 295);
        noIndex("no first type", () -> x.upper(295, 9));
        noIndex("no second type", () -> x.upper(9, 295));
        is("less is fine", x.upper(8, 16), 295);
        LeastBounds y = fill(new LeastBounds(1), 294);
        is("room for six", y.upper(9, 10), 299);
        is("there already", y.upper(2, 1), 299);
        is("alike", y.upper(7, 7), 7);
        is("a primitive and its box", y.upper(7, 15), 15);
        noState("another bound", () -> y.upper(8, 11));
    }

    // Promise 7

    private static void lowerNone() {
        sentence("THE LOWER BOUND; NONE. Likewise.");
        LeastBounds x = new LeastBounds(1);
        for (int a = 0; a < 16; a++) {
            for (int b = 0; b < 16; b++) {
                int due = a == b ? a : a % 8 == b % 8 ? Math.min(a, b) : NONE;
                is(a + " and " + b, x.lower(a, b), due);
            }
        }
        is("none is new", x.told(2), 16);
        for (int n : new int[] {BEFORE, -1, 16, BEYOND}) {
            noIndex("first " + n, () -> x.lower(n, 8));
            noIndex("second " + n, () -> x.lower(8, n));
        }
    }

    private static void lowerTooMuch() {
        sentence("THE LOWER BOUND; NONE. Likewise.");
        LeastBounds x = new LeastBounds(1);
        int clones = x.named(CLONES, 0, 0);
        int number = x.named(NUMBER, 0, 0);
        fill(x, 300);
        noState("the 301st", () -> x.lower(clones, number));
        is("a is below b", x.lower(9, number), 9);
        is("b is below a", x.lower(number, 9), 9);
        is("there is none", x.lower(8, number), NONE);
        is("there is none without parts", x.lower(0, number), NONE);
        LeastBounds y = new LeastBounds(1);
        int face = y.named(CLONES, 0, 0);
        int most = y.named(COMPARES, EXACT, arrays(y, 8, 97));
        int more = y.named(COMPARES, EXACT, arrays(y, 8, 98));
        is("of 100", y.type(y.lower(face, most), 5), 100);
        int types = y.told(2);
        noState("of 101", () -> y.lower(face, more));
        is("none is new", y.told(2), types);
    }

    // Promise 8

    private static void isBelowChangesNothing() {
        sentence("Whether a is BELOW b. IndexOutOfBounds.");
        LeastBounds x = fill(new LeastBounds(1), 300);
        is("no type is new for it", x.isBelow(1, 9), true);
        is("nor for a look in it", x.isBelow(299, 16), false);
        is("300", x.told(2), 300);
        LeastBounds y = new LeastBounds(1);
        int deep = arrays(y, 8, 100);
        declareAll(y, false);
        y.above(COMPARES, deep);
        int type = y.named(13, 0, 0);
        int any = y.named(COMPARES, BOUNDED, y.named(ROOT, 0, 0));
        is("what is found may be made of 101", y.isBelow(type, any), true);
        for (int n : new int[] {BEFORE, -1, 300, BEYOND}) {
            noIndex("first " + n, () -> one(x.isBelow(n, 0)));
            noIndex("second " + n, () -> one(x.isBelow(0, n)));
        }
    }

    private static void isBelowAfterAbove() {
        sentence("Each class is below those DIRECTLY ABOVE it, and below what these are below of");
        LeastBounds x = new LeastBounds(1);
        declareAll(x, true, false);
        int face = x.named(13, 0, 0);
        int type = x.named(14, 0, 0);
        int faces = x.array(face);
        int types = x.array(type);
        int number = x.named(NUMBER, 0, 0);
        is("not yet", x.isBelow(types, faces), false);
        is("nor number", x.isBelow(type, number), false);
        noState("a call that is refused", () -> x.above(14, NONE));
        is("not by that", x.isBelow(types, faces), false);
        x.above(13, NONE);
        is("now", x.isBelow(types, faces), true);
        x.above(NUMBER, NONE);
        is("number, too", x.isBelow(type, number), true);
        is("still", x.isBelow(types, faces), true);
    }

    // Promise 9

    private static void lookNone() {
        sentence("What a LOOK at a class in a type finds; NONE. IndexOutOfBounds; IllegalState.");
        LeastBounds x = new LeastBounds(1);
        for (int named = 0; named < 13; named++) {
            boolean found = named == 0 || named == 2 || named == 3 || named == 5;
            is("class " + named + " in the first primitive", x.look(0, named) != NONE, found);
        }
        is("three are new", x.told(2), 19);
        is("the box's is not", x.look(0, 5), 8);
        is("NONE makes none", x.look(8, CLONES), NONE);
        is("still", x.told(2), 19);
        for (int n : new int[] {BEFORE, -1, BEYOND}) {
            noIndex("type " + n, () -> x.look(n, 0));
            noIndex("class " + n, () -> x.look(0, n));
        }
        noIndex("type 19", () -> x.look(19, 0));
        noIndex("class 13", () -> x.look(0, 13));
    }

    private static void lookTooMuch() {
        sentence("What a LOOK at a class in a type finds; NONE. IndexOutOfBounds; IllegalState.");
        LeastBounds x = fill(new LeastBounds(1), 300);
        noState("the 301st", () -> x.look(8, COMPARES));
        noState("the 301st, of an array", () -> x.look(16, CLONES));
        is("its own class", x.look(8, 5), 8);
        is("a primitive's box", x.look(3, 8), 11);
        is("NONE", x.look(16, COMPARES), NONE);
        LeastBounds y = new LeastBounds(1);
        y.declare(true, true);
        y.declare(true, true);
        y.above(13, PARAMETER);
        int argument = arrays(y, 8, 99);
        int deep = y.named(14, BOUNDED, argument);
        is("as deep as the type", y.type(y.look(deep, 13), 5), 100);
    }

    // Promise 10

    private static void boxOfTypes() {
        sentence("A primitive's BOX's type; of others the type itself. IndexOutOfBounds; IllegalState.");
        LeastBounds x = new LeastBounds(1);
        int both = x.lower(x.named(CLONES, 0, 0), x.named(WRITES, 0, 0));
        int array = x.array(7);
        for (int primitive = 0; primitive < 8; primitive++) {
            is("a primitive", x.box(primitive), 8 + primitive);
        }
        for (int type = 8; type <= array; type++) {
            is("another", x.box(type), type);
        }
        is("an intersection", x.box(both), both);
        is("none is new", x.told(2), 20);
        for (int n : new int[] {BEFORE, -1, 20, BEYOND}) {
            noIndex("type " + n, () -> x.box(n));
        }
        LeastBounds y = fill(new LeastBounds(1), 300);
        is("the boxes are there already", y.box(0), 8);
        is("the last type", y.box(299), 299);
    }

    // Promise 11

    /** One of each kind: a primitive, NAMED without, EXACT and BOUNDED, an ARRAY of these, an INTERSECTION. */
    private static int[] kinds(LeastBounds x) {
        int exact = x.named(COMPARES, EXACT, 8);
        int bounded = x.named(COMPARES, BOUNDED, exact);
        int clones = x.named(CLONES, 0, 0);
        return new int[] {0, 8, exact, bounded, x.array(3), x.array(exact), x.lower(clones, exact), x.lower(clones, bounded)};
    }

    private static void typeWithoutArgument() {
        sentence("0 without ARGUMENT, 1 EXACT, 2 BOUNDED (2)");
        LeastBounds x = new LeastBounds(1);
        int[] types = kinds(x);
        int[] due = {0, 0, 1, 2, 0, 0, 0, 0};
        for (int i = 0; i < types.length; i++) {
            is("type " + types[i], x.type(types[i], 2), due[i]);
        }
    }

    private static void typeNoneWithout() {
        sentence("Of a type: 0 primitive, 1 NAMED, 2 ARRAY, 3 INTERSECTION (what = 0), its class (1)");
        LeastBounds x = new LeastBounds(1);
        int[] types = kinds(x);
        int[] due = {0, 1, 1, 1, 2, 2, 3, 3};
        int[] classes = {NONE, 5, COMPARES, COMPARES, NONE, NONE, NONE, NONE};
        int[] inner = {NONE, NONE, 8, types[2], 3, types[2], NONE, NONE};
        for (int i = 0; i < types.length; i++) {
            is("kind of " + types[i], x.type(types[i], 0), due[i]);
            sentence("NONE without. IndexOutOfBounds; IllegalArgument.");
            is("class of " + types[i], x.type(types[i], 1), classes[i]);
            sentence("the type of its ARGUMENT or ELEMENT (3)");
            is("inner type of " + types[i], x.type(types[i], 3), inner[i]);
        }
        is("the class 0", x.type(x.named(ROOT, 0, 0), 1), 0);
        is("the element 0", x.type(x.array(0), 3), 0);
    }

    private static void typeParts() {
        sentence("how many PARTS (4)");
        LeastBounds x = new LeastBounds(1);
        int[] types = kinds(x);
        int[] due = {0, 1, 1, 1, 0, 0, 2, 2};
        for (int i = 0; i < types.length; i++) {
            is("parts of " + types[i], x.type(types[i], 4), due[i]);
        }
        declareAll(x, true);
        is("three", x.type(x.lower(x.named(13, 0, 0), types[6]), 4), 3);
    }

    private static void typeMadeOf() {
        sentence("how many types it is made of (5)");
        LeastBounds x = new LeastBounds(1);
        int[] types = kinds(x);
        int[] due = {1, 1, 2, 3, 2, 3, 4, 5};
        for (int i = 0; i < types.length; i++) {
            is("types in " + types[i], x.type(types[i], 5), due[i]);
        }
        is("an intersection in an array", x.type(x.array(types[7]), 5), 6);
        is("at most 100", x.type(arrays(x, types[7], 100), 5), 100);
    }

    private static void typeRefused() {
        sentence("NONE without. IndexOutOfBounds; IllegalArgument.");
        LeastBounds x = new LeastBounds(1);
        for (int n : new int[] {BEFORE, -2, -1, 16, 300, BEYOND}) {
            for (int what = -1; what <= 6; what++) {
                int asked = what;
                noIndex("type " + n + ", what " + what, () -> x.type(n, asked));
            }
        }
        for (int n : new int[] {BEFORE, -1, 6, BEYOND}) {
            noArgument("of a primitive, what " + n, () -> x.type(0, n));
            noArgument("of a box, what " + n, () -> x.type(15, n));
        }
    }

    // Promise 12

    private static void partFromZero() {
        sentence("PART i, from 0, of a type.");
        LeastBounds x = new LeastBounds(1);
        int[] types = kinds(x);
        is("a named type's", x.part(8, 0), 8);
        is("a generic one's", x.part(types[2], 0), types[2]);
        is("an intersection's first", x.type(x.part(types[6], 0), 1), CLONES);
        is("an intersection's second", x.part(types[6], 1), types[2]);
    }

    private static void partRefused() {
        sentence("IndexOutOfBounds: also the part.");
        LeastBounds x = new LeastBounds(1);
        int[] types = kinds(x);
        int[] parts = {0, 1, 1, 1, 0, 0, 2, 2};
        for (int i = 0; i < types.length; i++) {
            int type = types[i];
            for (int n : new int[] {BEFORE, -1, parts[i], parts[i] + 1, BEYOND}) {
                noIndex("part " + n + " of " + type, () -> x.part(type, n));
            }
        }
        int many = x.told(2);
        for (int n : new int[] {BEFORE, -1, many, 300, BEYOND}) {
            noIndex("type " + n, () -> x.part(n, 0));
        }
    }

    // Promise 13

    private static void commonCounts() {
        sentence("How many classes are COMMON to two types (what = 0); how many of these are LEAST (1).");
        LeastBounds x = new LeastBounds(1);
        int root = x.named(ROOT, 0, 0);
        int array = x.array(2);
        int[][] rows = {{root, root, 1, 1}, {root, 0, 1, 1}, {0, 0, 4, 1}, {0, 8, 4, 1}, {1, 9, 5, 1}, {1, 2, 4, 2}, {8, 11, 3, 2},
            {array, array, 3, 2}, {array, 2, 2, 1}, {array, root, 1, 1}, {8, x.named(CLONES, 0, 0), 1, 1}};
        for (int[] row : rows) {
            is("common to " + row[0] + ", " + row[1], x.common(row[0], row[1], 0), row[2]);
            is("common to " + row[1] + ", " + row[0], x.common(row[1], row[0], 0), row[2]);
            is("least of " + row[0] + ", " + row[1], x.common(row[0], row[1], 1), row[3]);
            is("least of " + row[1] + ", " + row[0], x.common(row[1], row[0], 1), row[3]);
        }
        is("none is new", x.told(2), 19);
        LeastBounds y = fill(new LeastBounds(1), 300);
        is("also where there are 300", y.common(1, 2, 0), 4);
        LeastBounds z = new LeastBounds(1);
        for (int i = 13; i < 30; i++) {
            z.declare(i < 29, false);
            z.above(i == 13 ? CLONES : i - 1, NONE);
        }
        int last = z.named(29, 0, 0);
        is("a chain", z.common(last, last, 0), 19);
        is("its least", z.common(last, last, 1), 1);
    }

    private static void commonRefused() {
        sentence("how many of these are LEAST (1). IndexOutOfBounds; IllegalArgument.");
        LeastBounds x = new LeastBounds(1);
        for (int n : new int[] {BEFORE, -1, 16, BEYOND}) {
            for (int what = -1; what <= 2; what++) {
                int asked = what;
                noIndex("first " + n, () -> x.common(n, 8, asked));
                noIndex("second " + n, () -> x.common(8, n, asked));
            }
        }
        for (int n : new int[] {BEFORE, -1, 2, BEYOND}) {
            noArgument("what " + n, () -> x.common(8, 9, n));
            noArgument("alike, what " + n, () -> x.common(8, 8, n));
        }
    }

    // Promise 14

    private static void isUnderEdges() {
        sentence("Whether a class is below another one. IndexOutOfBounds.");
        LeastBounds x = new LeastBounds(1);
        String[] due = {"0", "1", "1", "1", "101", "1011", "10111", "10111", "1011", "10111", "10111", "10111", "10111"};
        for (int a = 0; a < 13; a++) {
            for (int b = 0; b < 13; b++) {
                is(a + " under " + b, x.isUnder(a, b), b < due[a].length() && due[a].charAt(b) == '1');
            }
        }
        for (int n : new int[] {BEFORE, -1, 13, 30, BEYOND}) {
            noIndex("first " + n, () -> one(x.isUnder(n, 0)));
            noIndex("second " + n, () -> one(x.isUnder(0, n)));
            noIndex("both " + n, () -> one(x.isUnder(n, n)));
        }
    }

    // Promise 15

    private static void classedCounts() {
        sentence("Of a class: 1 a FACE, else 0 (what = 0), 1 GENERIC, else 0 (1), how many are DIRECTLY ABOVE it (2), how many "
            + "are above (3).");
        LeastBounds x = new LeastBounds(1);
        is("root: none directly above", x.classed(ROOT, 2), 0);
        is("root: none above", x.classed(ROOT, 3), 0);
        for (int i = 13; i < 30; i++) {
            x.declare(false, i < 18);
            x.above(i == 13 ? 12 : i - 1, i == 13 ? NONE : i <= 18 ? 8 : NONE);
        }
        is("one directly above", x.classed(29, 2), 1);
        is("as many above as can be", x.classed(29, 3), 21);
        is("a class", x.classed(29, 0), 0);
        is("not generic", x.classed(29, 1), 0);
        is("generic", x.classed(17, 1), 1);
        is("a face counts once", x.above(WRITES, NONE), 2);
        is("not twice", x.classed(29, 3), 21);
        is("one more", x.above(CLONES, NONE), 3);
        is("is counted", x.classed(29, 3), 22);
    }

    private static void classedRefused() {
        sentence("how many are above (3). IndexOutOfBounds; IllegalArgument.");
        LeastBounds x = new LeastBounds(1);
        for (int n : new int[] {BEFORE, -1, 13, 30, BEYOND}) {
            for (int what = -1; what <= 4; what++) {
                int asked = what;
                noIndex("class " + n, () -> x.classed(n, asked));
            }
        }
        for (int n : new int[] {BEFORE, -1, 4, BEYOND}) {
            noArgument("what " + n, () -> x.classed(0, n));
            noArgument("what " + n + " of the last", () -> x.classed(12, n));
        }
    }

    // Promise 16

    private static void directFromZero() {
        sentence("The i-th, from 0, DIRECTLY ABOVE a class: it (what = 0), its ARGUMENT's type, PARAMETER, or NONE (1).");
        LeastBounds x = new LeastBounds(1);
        x.declare(true, true);
        x.above(COMPARES, PARAMETER);
        x.above(CLONES, NONE);
        x.declare(false, true);
        x.above(13, 9);
        int[][] due = {{ROOT, NONE}, {COMPARES, PARAMETER}, {CLONES, NONE}};
        for (int i = 0; i < 3; i++) {
            is("class at " + i, x.direct(13, i, 0), due[i][0]);
            is("argument at " + i, x.direct(13, i, 1), due[i][1]);
        }
        is("a type", x.direct(14, 1, 1), 9);
        is("a box's last", x.direct(5, 2, 0), COMPARES);
        is("with itself", x.direct(5, 2, 1), 8);
    }

    private static void directRefused() {
        sentence("IndexOutOfBounds: also i; IllegalArgument.");
        LeastBounds x = new LeastBounds(1);
        x.declare(true, false);
        int[] counts = {0, 1, 1, 1, 2, 3, 3, 3, 3, 3, 3, 3, 3, 1};
        for (int named = 0; named < 14; named++) {
            int of = named;
            for (int n : new int[] {BEFORE, -1, counts[named], 30, BEYOND}) {
                noIndex("i " + n + " of " + named, () -> x.direct(of, n, 0));
                noIndex("i " + n + " of " + named + ", what is none", () -> x.direct(of, n, 2));
            }
        }
        for (int n : new int[] {BEFORE, -1, 14, BEYOND}) {
            noIndex("class " + n, () -> x.direct(n, 0, 0));
            noIndex("class " + n + ", what is none", () -> x.direct(n, 0, -1));
        }
        for (int n : new int[] {BEFORE, -1, 2, BEYOND}) {
            noArgument("what " + n, () -> x.direct(13, 0, n));
        }
    }

    // Promise 17

    private static void toldCounts() {
        sentence("How many classes (what = 0), GENERIC ones (1), types (2); the depth (3).");
        LeastBounds x = new LeastBounds(2);
        int[] due = {13, 1, 16, 2};
        for (int what = 0; what <= 3; what++) {
            is("what " + what, x.told(what), due[what]);
        }
        for (int i = 13; i < 30; i++) {
            x.declare(false, i >= 25);
        }
        is("30 classes", x.told(0), 30);
        is("six generic ones", x.told(1), 6);
        fill(x, 300);
        is("300 types", x.told(2), 300);
        is("the depth stays", x.told(3), 2);
    }

    private static void toldRefused() {
        sentence("the depth (3). IllegalArgument.");
        LeastBounds x = new LeastBounds(1);
        for (int n : new int[] {BEFORE, -2, -1, 4, 5, BEYOND}) {
            noArgument("what " + n, () -> x.told(n));
        }
    }
}
