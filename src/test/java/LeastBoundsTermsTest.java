import java.lang.reflect.Method;
import java.lang.reflect.Modifier;
import java.util.ArrayList;
import java.util.Collections;
import java.util.List;
import java.util.function.Supplier;
import java.util.function.ToIntFunction;

/** The boundary cases of the document's section "Terms", a test for each sentence. */
public final class LeastBoundsTermsTest extends Checks {
    private static final Class<?> INDEX = IndexOutOfBoundsException.class, STATE = IllegalStateException.class,
        ARGUMENT = IllegalArgumentException.class;

    public static void main(String[] args) {
        publicFace();
        usedFor512Calls();
        thirtyClasses();
        sixGenericClasses();
        lowerNumbersAreAbove();
        argumentsOfGenericOnes();
        firstClasses();
        belowWhatTheseAreBelowOf();
        threeHundredTypes();
        madeOfAHundred();
        madeOfAHundredByLook();
        asOftenAsItStandsThere();
        firstTypes();
        argumentsAreNoPrimitives();
        intersectionsInOrder();
        partsOfOthers();
        oneNumberEach();
        lookAtNamed();
        lookAtParameters();
        lookAtIntersections();
        lookAtArrays();
        lookAtPrimitives();
        belowPrimitives();
        belowIntersections();
        belowNamed();
        belowArrays();
        belowToTheLast();
        fits();
        upperOfAlikeOnes();
        upperOfPrimitives();
        upperOfArrays();
        upperLeast();
        upperArguments();
        upperSeveral();
        lowerBelow();
        lowerWithoutParts();
        lowerLeavesParts();
        lowerOfAlikeParts();
        lowerOfPartsBelowOneAnother();
        lowerOfOneClass();
        lowerOfClasses();
        numberedFromTheLeft();
        numberedBehindWhatIsThere();
        noSuchNumber();
        noneIsNew();
        noneThatIsTold();
        ofSeveralTheFirst();
        ofSeveralTheFirstAtTheLimits();
        throwingChangesNothing();
        throwingChangesNothingAtTheLimits();
        end();
    }

    private static LeastBounds full() {
        return fill(new LeastBounds(1), 300);
    }

    /** 13 a generic face; 14 a generic class below it with its own parameter; 15 a class below 14 with 10. */
    private static LeastBounds family() {
        LeastBounds x = new LeastBounds(1);
        x.declare(true, true);
        x.declare(false, true);
        x.above(13, PARAMETER);
        x.declare(false, false);
        x.above(14, 10);
        return x;
    }

    private static void declareFaces(LeastBounds x, int upTo) {
        while (x.told(0) < upTo) {
            x.declare(true, false);
        }
    }

    private static void publicFace() {
        sentence("public final class LeastBounds {");
        String index = " IndexOutOfBoundsException";
        String state = " IllegalStateException";
        String argument = " IllegalArgumentException";
        List<String> due = new ArrayList<>(List.of("int declare(boolean, boolean)" + state, "int above(int, int)" + index + state + argument,
            "int named(int, int, int)" + index + argument + state, "int array(int)" + index + state, "int upper(int, int)" + index + state,
            "int lower(int, int)" + index + state, "boolean isBelow(int, int)" + index, "int look(int, int)" + index + state,
            "int box(int)" + index + state, "int type(int, int)" + index + argument, "int part(int, int)" + index,
            "int common(int, int, int)" + index + argument, "boolean isUnder(int, int)" + index, "int classed(int, int)" + index + argument,
            "int direct(int, int, int)" + index + argument, "int told(int)" + argument));
        List<String> got = new ArrayList<>();
        for (Method method : LeastBounds.class.getDeclaredMethods()) {
            if (!Modifier.isPrivate(method.getModifiers())) {
                got.add(faceOf(method));
            }
        }
        Collections.sort(due);
        Collections.sort(got);
        same("the methods", got.toString(), due.toString());
        is("public and final", LeastBounds.class.getModifiers(), Modifier.PUBLIC | Modifier.FINAL);
        is("one constructor", LeastBounds.class.getDeclaredConstructors().length, 1);
        is("two constants", LeastBounds.class.getFields().length, 2);
        is("NONE", NONE, -1);
        is("PARAMETER", PARAMETER, -2);
    }

    private static String faceOf(Method method) {
        StringBuilder face = new StringBuilder(method.getReturnType() + " " + method.getName() + "(");
        for (Class<?> type : method.getParameterTypes()) {
            face.append(face.charAt(face.length() - 1) == '(' ? "" : ", ").append(type);
        }
        face.append(')');
        for (Class<?> thrown : method.getExceptionTypes()) {
            face.append(' ').append(thrown.getSimpleName());
        }
        return face.toString();
    }

    private static void usedFor512Calls() {
        sentence("An object is used for at most 512 calls after it has been made; what later calls answer is free.");
        LeastBounds x = new LeastBounds(2);
        for (int i = 0; i < 17; i++) {
            x.declare(true, false);
        }
        int all = x.named(CLONES, 0, 0);
        for (int i = 0; i < 17; i++) {
            all = x.lower(all, x.named(13 + i, 0, 0));
        }
        int deep = all;
        for (int i = 0; i < 81; i++) {
            deep = x.named(COMPARES, BOUNDED, deep);
        }
        int calls = 17 + 1 + 2 * 17 + 81;
        while (calls < 510) {
            int other = deep - calls % 80;
            is("call " + calls, x.isBelow(deep, other), other == deep);
            calls++;
        }
        is("the 511th call", x.type(deep, 5), 100);
        is("the 512th call", x.upper(deep, deep - 1), deep + 4);
    }

    private static void thirtyClasses() {
        sentence("CLASSES 0, 1, .. (30 at most) are classes or FACES");
        for (boolean face : new boolean[] {false, true}) {
            LeastBounds x = new LeastBounds(1);
            for (int named = 13; named < 30; named++) {
                is("the next number", x.declare(face, false), named);
                is("how many", x.told(0), named + 1);
            }
            noState("a class after 30", () -> x.declare(false, false));
            noState("a face after 30", () -> x.declare(true, false));
            is("still 30", x.told(0), 30);
            is("the last one is there", x.classed(29, 0), one(face));
            is("its type", x.named(29, 0, 0), 16);
            is("it may get one more", x.above(CLONES, NONE), 2);
            noIndex("there is none behind it", () -> x.classed(30, 0));
        }
    }

    private static void sixGenericClasses() {
        sentence("some GENERIC (six of all at most)");
        LeastBounds x = new LeastBounds(1);
        is("COMPARES is one", x.told(1), 1);
        for (int i = 2; i <= 6; i++) {
            x.declare(i % 2 == 0, true);
            is("one more", x.told(1), i);
        }
        noState("a seventh, a class", () -> x.declare(false, true));
        noState("a seventh, a face", () -> x.declare(true, true));
        is("still six", x.told(1), 6);
        is("others go on", x.declare(false, false), 18);
        is("others count not", x.told(1), 6);
        noState("a seventh later", () -> x.declare(false, true));
        for (int named = 13; named < 18; named++) {
            is("generic", x.classed(named, 1), 1);
        }
        is("not generic", x.classed(18, 1), 0);
    }

    private static void lowerNumbersAreAbove() {
        sentence("each has classes DIRECTLY ABOVE it, of lower numbers");
        LeastBounds x = new LeastBounds(1);
        x.declare(true, false);
        x.declare(true, false);
        noState("itself", () -> x.above(14, NONE));
        noIndex("a higher one", () -> x.above(15, NONE));
        is("the one before it", x.above(13, NONE), 2);
        x.declare(true, false);
        is("the newest gets it, not 14", x.above(14, NONE), 2);
        is("14 has what it had", x.classed(14, 2), 2);
        is("14 is not under 15", x.isUnder(14, 15), false);
    }

    private static void argumentsOfGenericOnes() {
        sentence("each, if that one is GENERIC, with an ARGUMENT: a type, or its own PARAMETER (if it is GENERIC itself)");
        LeastBounds x = family();
        is("its own parameter", x.direct(14, 1, 1), PARAMETER);
        is("a type", x.direct(15, 0, 1), 10);
        is("not generic", x.direct(13, 0, 1), NONE);
        noArgument("a parameter of one that has none", () -> x.above(13, PARAMETER));
        LeastBounds y = family();
        y.declare(false, true);
        is("a type for one that is generic itself", y.above(13, 8), 2);
        is("told as a type", y.direct(16, 1, 1), 8);
    }

    private static void firstClasses() {
        sentence("At first there are: 0 ROOT, a class with none above; FACES 1 CLONES, 2 WRITES, 3 COMPARES (GENERIC), below ROOT");
        LeastBounds x = new LeastBounds(1);
        is("thirteen", x.told(0), 13);
        int[][] directs = {{}, {0}, {0}, {0}, {0, 2}, {0, 2, 3}, {4, 2, 3}, {4, 2, 3}, {0, 2, 3}, {4, 2, 3}, {4, 2, 3}, {4, 2, 3}, {4, 2, 3}};
        for (int named = 0; named < 13; named++) {
            if (named == NUMBER) {
                sentence("4 NUMBER, a class below ROOT and WRITES; the BOXES 5 .. 12, of the primitives 0 .. 7: classes, 5 and 8 "
                    + "below ROOT, the others below NUMBER; each below WRITES, and below COMPARES with itself as ARGUMENT.");
            }
            is("face " + named, x.classed(named, 0), one(named >= 1 && named <= 3));
            is("generic " + named, x.classed(named, 1), one(named == COMPARES));
            is("directly above " + named, x.classed(named, 2), directs[named].length);
            for (int i = 0; i < directs[named].length; i++) {
                is("above " + named + " at " + i, x.direct(named, i, 0), directs[named][i]);
                is("argument of " + named + " at " + i, x.direct(named, i, 1), directs[named][i] == COMPARES ? 3 + named : NONE);
            }
        }
    }

    private static void belowWhatTheseAreBelowOf() {
        sentence("Each class is below those DIRECTLY ABOVE it, and below what these are below of; nothing else (not below itself).");
        for (int a = 13; a < 30; a++) {
            LeastBounds x = twoChains();
            for (int b = 0; b < 30; b++) {
                boolean chained = b >= 13 && b < a && (a - b) % 2 == 0;
                is(a + " under " + b, x.isUnder(a, b), b == ROOT || chained);
            }
            is("above " + a, x.classed(a, 3), 1 + (a - 13) / 2);
        }
        LeastBounds y = new LeastBounds(1);
        for (int named = 13; named < 30; named++) {
            y.declare(true, false);
            for (int above = 13; above < named; above++) {
                is("all above", y.above(above, NONE), above - 11);
            }
        }
        is("as many directly above as can be", y.classed(29, 2), 17);
        is("the last of them", y.direct(29, 16, 0), 28);
        is("each but once", y.classed(29, 3), 17);
    }

    /** All thirty classes: 15, 17, .. each below the class two before it, 16, 18, .. each below the face two before it. */
    private static LeastBounds twoChains() {
        LeastBounds x = new LeastBounds(1);
        for (int named = 13; named < 30; named++) {
            x.declare(named % 2 == 0, false);
            if (named >= 15) {
                x.above(named - 2, NONE);
            }
        }
        return x;
    }

    private static void threeHundredTypes() {
        sentence("TYPES 0, 1, .. (300 at most");
        limit("named", x -> x.named(COMPARES, EXACT, 9));
        limit("array", x -> x.array(3));
        limit("look", x -> x.look(9, COMPARES));
        limit("look in a primitive", x -> x.look(1, NUMBER));
        limit("upper", x -> x.upper(9, x.array(8)));
        LeastBounds x = new LeastBounds(1);
        int clones = x.named(CLONES, 0, 0);
        int writes = x.named(WRITES, 0, 0);
        fill(x, 299);
        is("lower, the 300th", x.lower(clones, writes), 299);
        is("lower, there already", x.lower(writes, clones), 299);
        LeastBounds y = new LeastBounds(1);
        y.named(CLONES, 0, 0);
        y.named(WRITES, 0, 0);
        fill(y, 300);
        noState("lower, the 301st", () -> y.lower(clones, writes));
        is("still 300", y.told(2), 300);
        sentence("IndexOutOfBounds: there is no such class, type, part.");
        noIndex("type 300", () -> y.type(300, 0));
        is("type 299", y.type(299, 0), 2);
    }

    /** The call makes one type: as the 300th it goes, also once more, as the 301st it is refused. */
    private static void limit(String what, ToIntFunction<LeastBounds> call) {
        LeastBounds x = fill(new LeastBounds(1), 299);
        is(what + ", the 300th", call.applyAsInt(x), 299);
        is(what + ", there already", call.applyAsInt(x), 299);
        is(what + ", 300 of them", x.told(2), 300);
        LeastBounds y = full();
        noState(what + ", the 301st", () -> call.applyAsInt(y));
        is(what + ", still 300", y.told(2), 300);
    }

    private static void madeOfAHundred() {
        sentence("each made of 100 at most: it, its ARGUMENT, ELEMENT, PARTS, what these are made of, each as often as it stands there");
        LeastBounds x = new LeastBounds(1);
        int under = arrays(x, 8, 99);
        int full = arrays(x, 8, 100);
        is("array", x.type(full, 5), 100);
        noState("array of 101", () -> x.array(full));
        is("exact", x.type(x.named(COMPARES, EXACT, under), 5), 100);
        noState("exact of 101", () -> x.named(COMPARES, EXACT, full));
        is("bounded", x.type(x.named(COMPARES, BOUNDED, under), 5), 100);
        noState("bounded of 101", () -> x.named(COMPARES, BOUNDED, full));

        LeastBounds y = new LeastBounds(1);
        int clones = y.named(CLONES, 0, 0);
        int fits = y.named(COMPARES, EXACT, arrays(y, 8, 97));
        int tooMuch = y.named(COMPARES, EXACT, arrays(y, 8, 98));
        is("an intersection", y.type(y.lower(fits, clones), 5), 100);
        int before = y.told(2);
        noState("an intersection of 101", () -> y.lower(tooMuch, clones));
        noState("the other way round", () -> y.lower(clones, tooMuch));
        is("none is new", y.told(2), before);

        LeastBounds z = new LeastBounds(2);
        int bound = z.upper(arrays(z, 9, 91), arrays(z, 10, 91));
        is("an upper bound", z.type(bound, 5), 100);
        int left = arrays(z, 9, 92);
        int right = arrays(z, 10, 92);
        int types = z.told(2);
        is("there is room", types < 300, true);
        noState("an upper bound of 101", () -> z.upper(left, right));
        is("nothing of it is new", z.told(2), types);
    }

    private static void madeOfAHundredByLook() {
        sentence("IllegalState: as told, or there would be more than 300 types, or one made of more than 100 (then none is new).");
        for (int size = 99; size <= 100; size++) {
            LeastBounds x = new LeastBounds(1);
            int argument = arrays(x, 8, size);
            x.declare(false, false);
            is("told, not made", x.above(COMPARES, argument), 2);
            int type = x.named(13, 0, 0);
            int before = x.told(2);
            if (size == 99) {
                is("found", x.look(type, COMPARES), before);
                is("made of 100", x.type(before, 5), 100);
                is("upper", x.upper(type, x.array(before - 2)), before + 2);
            } else {
                noState("what is found is made of 101", () -> x.look(type, COMPARES));
                is("none is new", x.told(2), before);
                is("other classes are found", x.look(type, 13), type);
                is("it is common all the same", x.common(type, type, 0), 3);
            }
        }
    }

    private static void asOftenAsItStandsThere() {
        sentence("each as often as it stands there");
        LeastBounds x = new LeastBounds(1);
        int bound = x.upper(9, 10);
        is("number stands there twice", x.type(bound, 5), 7);
        LeastBounds y = new LeastBounds(0);
        y.declare(true, true);
        int deep = arrays(y, 8, 48);
        int one = y.named(13, EXACT, deep);
        int other = y.named(COMPARES, EXACT, deep);
        is("one argument in both parts", y.type(y.lower(one, other), 5), 99);
        int deeper = y.array(deep);
        int mixed = y.lower(y.named(13, BOUNDED, deeper), other);
        is("100", y.type(mixed, 5), 100);
        int both = y.named(COMPARES, BOUNDED, deeper);
        noState("101", () -> y.lower(y.named(13, BOUNDED, deeper), both));
    }

    private static void firstTypes() {
        sentence("0 .. 7 the primitives; NAMED (8 .. 15 the BOXES', in order)");
        LeastBounds x = new LeastBounds(1);
        is("sixteen", x.told(2), 16);
        for (int i = 0; i < 8; i++) {
            is("a primitive", x.type(i, 0), 0);
            is("a box's type", x.type(8 + i, 1), 5 + i);
            is("that is made so, too", x.named(5 + i, 0, 0), 8 + i);
            is("made of one", x.type(i, 5) + x.type(8 + i, 5), 2);
        }
        noIndex("no sixteenth", () -> x.type(16, 0));
    }

    private static void argumentsAreNoPrimitives() {
        sentence("a class, with an ARGUMENT if it is GENERIC: EXACT, a type that is no primitive, or BOUNDED by one");
        LeastBounds x = new LeastBounds(1);
        for (int primitive = 0; primitive < 8; primitive++) {
            int argument = primitive;
            noArgument("exact primitive", () -> x.named(COMPARES, EXACT, argument));
            noArgument("bounded primitive", () -> x.named(COMPARES, BOUNDED, argument));
        }
        is("the first that is none", x.named(COMPARES, EXACT, 8), 16);
        is("an array of a primitive", x.named(COMPARES, BOUNDED, x.array(7)), 18);
        int both = x.lower(x.named(CLONES, 0, 0), x.named(WRITES, 0, 0));
        is("an intersection", x.type(x.named(COMPARES, EXACT, both), 3), both);
    }

    private static void intersectionsInOrder() {
        sentence("INTERSECTIONS of two or more NAMED types of different classes, in the order of these");
        LeastBounds x = new LeastBounds(1);
        declareFaces(x, 30);
        int all = x.named(29, 0, 0);
        for (int named = 28; named >= 13; named--) {
            all = x.lower(all, x.named(named, 0, 0));
        }
        all = x.lower(all, x.named(NUMBER, 0, 0));
        all = x.lower(x.named(COMPARES, EXACT, all), all);
        all = x.lower(all, x.named(CLONES, 0, 0));
        is("as many as can be", x.type(all, 4), 20);
        int[] due = {1, 3, 4, 13, 14, 15, 16, 17, 18, 19, 20, 21, 22, 23, 24, 25, 26, 27, 28, 29};
        for (int i = 0; i < 20; i++) {
            is("part " + i, x.type(x.part(all, i), 1), due[i]);
        }
        int last = all;
        noIndex("no part more", () -> x.part(last, 20));
        is("the same bound of all and its parts", x.upper(all, all), all);
        is("its last part again", x.lower(all, x.part(all, 19)), all);
    }

    private static void partsOfOthers() {
        sentence("(a NAMED type has one PART, itself; others have none)");
        LeastBounds x = new LeastBounds(1);
        int generic = x.named(COMPARES, BOUNDED, 8);
        int array = x.array(generic);
        is("a named type", x.type(generic, 4), 1);
        is("itself", x.part(generic, 0), generic);
        is("an array", x.type(array, 4), 0);
        is("a primitive", x.type(7, 4), 0);
        noIndex("an array's", () -> x.part(array, 0));
        noIndex("a primitive's", () -> x.part(7, 0));
    }

    private static void oneNumberEach() {
        sentence("Types are alike if they are so told: each has one number, the one that it got first.");
        LeastBounds x = new LeastBounds(0);
        int bound = x.upper(9, 10);
        is("root", x.named(ROOT, 0, 0), bound - 3);
        is("compares", x.named(COMPARES, BOUNDED, bound - 3), bound - 2);
        is("number", x.named(NUMBER, 0, 0), bound - 1);
        is("the intersection", x.lower(bound - 1, bound - 2), bound);
        is("by a look", x.look(x.array(8), ROOT), bound - 3);
        is("the array", x.array(8), bound + 1);
        is("of the elements", x.upper(x.array(9), x.array(8)), x.array(x.upper(9, 8)));
        int exact = x.named(COMPARES, EXACT, 8);
        int bounded = x.named(COMPARES, BOUNDED, 8);
        is("exact and bounded are two", exact == bounded, false);
        is("found in the box", x.look(0, COMPARES), exact);
    }

    private static void lookAtNamed() {
        sentence("if it is NAMED: of its own class: it; else by the classes DIRECTLY ABOVE, as they stand: the first that is c, "
            + "or below c");
        LeastBounds x = family();
        int bounded = x.named(14, BOUNDED, 9);
        is("its own class", x.look(bounded, 14), bounded);
        is("not one below it", x.look(x.named(13, EXACT, 8), 14), NONE);
        is("nor one beside it", x.look(bounded, NUMBER), NONE);
        is("root at the end", x.look(bounded, ROOT), x.named(ROOT, 0, 0));
        LeastBounds y = new LeastBounds(1);
        declareFaces(y, 14);
        while (y.told(0) < 30) {
            int above = y.declare(true, false) - 1;
            y.above(above, NONE);
        }
        is("over sixteen", y.look(y.named(29, 0, 0), 13), y.named(13, 0, 0));
        is("but not back", y.look(y.named(13, 0, 0), 29), NONE);
    }

    private static void lookAtParameters() {
        sentence("there likewise, with the ARGUMENT that is told, or, for the PARAMETER, the type's own ARGUMENT, EXACT or "
            + "BOUNDED as that is");
        LeastBounds x = family();
        is("exact", x.look(x.named(14, EXACT, 9), 13), x.named(13, EXACT, 9));
        is("bounded", x.look(x.named(14, BOUNDED, 9), 13), x.named(13, BOUNDED, 9));
        is("told, then its own", x.look(x.named(15, 0, 0), 13), x.named(13, EXACT, 10));
        LeastBounds y = family();
        y.declare(false, true);
        y.above(14, 11);
        is("told, whatever its own is", y.look(y.named(16, BOUNDED, 8), 13), y.named(13, EXACT, 11));
        is("its own class keeps it", y.type(y.look(y.named(16, BOUNDED, 8), 16), 3), 8);
    }

    private static void lookAtIntersections() {
        sentence("an INTERSECTION: the first PART in which it is found");
        LeastBounds x = new LeastBounds(1);
        int both = x.lower(10, x.named(COMPARES, EXACT, 9));
        is("the first part's", x.look(both, COMPARES), x.named(COMPARES, EXACT, 9));
        is("the second part's", x.look(both, NUMBER), x.named(NUMBER, 0, 0));
        is("the second part", x.look(both, 7), 10);
        is("of no part", x.look(both, CLONES), NONE);
    }

    private static void lookAtArrays() {
        sentence("an ARRAY: ROOT, CLONES, WRITES alone are");
        LeastBounds x = family();
        x.declare(true, false);
        int[] arrays = {x.array(0), x.array(8), x.array(x.array(0)), x.array(x.named(16, 0, 0))};
        for (int array : arrays) {
            for (int named = 0; named < 17; named++) {
                is("class " + named, x.look(array, named) != NONE, named <= 2);
            }
            is("common", x.common(array, array, 0), 3);
        }
    }

    private static void lookAtPrimitives() {
        sentence("a primitive: in its BOX's type");
        for (int primitive = 0; primitive < 8; primitive++) {
            LeastBounds x = new LeastBounds(1);
            for (int named = 0; named < 13; named++) {
                is("as in the box", x.look(primitive, named), x.look(8 + primitive, named));
            }
            is("the box itself", x.look(primitive, 5 + primitive), 8 + primitive);
        }
    }

    private static void belowPrimitives() {
        sentence("they are alike (if b is a primitive just so)");
        LeastBounds x = new LeastBounds(1);
        x.array(0);
        for (int a = 0; a < 17; a++) {
            for (int b = 0; b < 8; b++) {
                is(a + " below " + b, x.isBelow(a, b), a == b);
            }
            is("alike", x.isBelow(a, a), true);
        }
    }

    private static void belowIntersections() {
        sentence("b is an INTERSECTION and a is BELOW all PARTS");
        LeastBounds x = new LeastBounds(1);
        int clones = x.named(CLONES, 0, 0);
        int writes = x.named(WRITES, 0, 0);
        int number = x.named(NUMBER, 0, 0);
        int both = x.lower(clones, writes);
        int more = x.lower(number, x.named(COMPARES, BOUNDED, number));
        is("just the first", x.isBelow(clones, both), false);
        is("just the second", x.isBelow(writes, both), false);
        is("an array of all", x.isBelow(x.array(0), both), true);
        is("a primitive of all", x.isBelow(1, more), true);
        is("a primitive of one", x.isBelow(1, both), false);
        is("truth, of none", x.isBelow(0, more), false);
        is("one of more parts", x.isBelow(x.lower(both, more), both), true);
        is("and of others", x.isBelow(x.lower(both, more), more), true);
        is("of fewer parts", x.isBelow(both, x.lower(both, more)), false);
    }

    private static void belowNamed() {
        sentence("b is NAMED: a has a PART (a itself, if it is an ARRAY or primitive) in which a LOOK at b's class finds one "
            + "whose ARGUMENT FITS into b's (or there is none)");
        LeastBounds x = new LeastBounds(1);
        int nine = x.named(COMPARES, EXACT, 9);
        int ten = x.named(COMPARES, EXACT, 10);
        int both = x.lower(10, nine);
        is("the first part fits", x.isBelow(both, nine), true);
        is("the second part fits", x.isBelow(both, ten), true);
        is("no part fits", x.isBelow(both, x.named(COMPARES, EXACT, 11)), false);
        is("without argument", x.isBelow(both, x.named(NUMBER, 0, 0)), true);
        is("an array itself", x.isBelow(x.array(0), x.named(CLONES, 0, 0)), true);
        is("a primitive itself", x.isBelow(2, ten), true);
        is("another primitive", x.isBelow(1, ten), false);
        is("an array does not compare", x.isBelow(x.array(0), x.named(COMPARES, BOUNDED, x.named(ROOT, 0, 0))), false);
    }

    private static void belowArrays() {
        sentence("both are ARRAYS, neither of a primitive, and a's ELEMENT is BELOW b's");
        LeastBounds x = new LeastBounds(1);
        int root = x.named(ROOT, 0, 0);
        int clones = x.named(CLONES, 0, 0);
        is("alike, of a primitive", x.isBelow(x.array(2), x.array(2)), true);
        is("a of a primitive", x.isBelow(x.array(2), x.array(10)), false);
        is("b of a primitive", x.isBelow(x.array(10), x.array(2)), false);
        is("both of a primitive", x.isBelow(x.array(1), x.array(2)), false);
        is("a of a primitive, b of root", x.isBelow(x.array(2), x.array(root)), false);
        is("of arrays of a primitive", x.isBelow(x.array(x.array(2)), x.array(root)), true);
        is("and of clones", x.isBelow(x.array(x.array(2)), x.array(clones)), true);
        is("of an array and no array", x.isBelow(x.array(10), x.array(x.array(10))), false);
        is("the element is below", x.isBelow(x.array(10), x.array(root)), true);
        is("the element is above", x.isBelow(x.array(root), x.array(10)), false);
        is("a no array", x.isBelow(10, x.array(root)), false);
    }

    private static void belowToTheLast() {
        sentence("each made of 100 at most: it, its ARGUMENT, ELEMENT, PARTS, what these are made of, each as often as it stands there");
        // Each question on a new object, so that none is answered by what an earlier one has found.
        for (int swap = 0; swap < 2; swap++) {
            LeastBounds x = new LeastBounds(1);
            int root = x.named(ROOT, 0, 0);
            int low = arrays(x, swap == 0 ? 10 : root, 100);
            int high = arrays(x, swap == 0 ? root : 10, 100);
            is("arrays of 100", x.isBelow(low, high), swap == 0);
            LeastBounds y = new LeastBounds(1);
            int bottom = y.named(ROOT, 0, 0);
            int one = swap == 0 ? 10 : bottom;
            int other = swap == 0 ? bottom : 10;
            for (int size = 2; size <= 100; size++) {
                one = y.named(COMPARES, BOUNDED, one);
                other = y.named(COMPARES, BOUNDED, other);
            }
            is("made of 100", y.type(other, 5), 100);
            is("arguments of 100", y.isBelow(one, other), swap == 0);
            is("lower, of 100", y.lower(one, other), swap == 0 ? one : other);
        }
    }

    private static void fits() {
        sentence("An ARGUMENT FITS into an EXACT one, if it is EXACT and alike; into a BOUNDED one, if its type is BELOW that one's.");
        LeastBounds x = new LeastBounds(1);
        int number = x.named(NUMBER, 0, 0);
        int[] types = {x.named(COMPARES, EXACT, 10), x.named(COMPARES, BOUNDED, 10),
            x.named(COMPARES, EXACT, number), x.named(COMPARES, BOUNDED, number)};
        String[] due = {"1101", "0101", "0011", "0001"};
        for (int a = 0; a < 4; a++) {
            for (int b = 0; b < 4; b++) {
                is(a + " fits into " + b, one(x.isBelow(types[a], types[b])), due[a].charAt(b) - '0');
            }
        }
    }

    private static void upperOfAlikeOnes() {
        sentence("THE UPPER BOUND of types a, b to a depth d: alike: that");
        for (int depth = 0; depth <= 2; depth++) {
            LeastBounds x = new LeastBounds(depth);
            int[] types = {0, 7, 8, x.named(COMPARES, BOUNDED, 8), x.array(0), x.array(8), x.upper(9, 10)};
            int before = x.told(2);
            for (int type : types) {
                is("alike", x.upper(type, type), type);
            }
            is("none is new", x.told(2), before);
        }
    }

    private static void upperOfPrimitives() {
        sentence("primitives are their BOXES' types here");
        LeastBounds x = new LeastBounds(1);
        int bound = x.upper(9, 10);
        for (int a = 1; a <= 9; a += 8) {
            for (int b = 2; b <= 10; b += 8) {
                is("of " + a + " and " + b, x.upper(a, b), bound);
            }
        }
        for (int primitive = 0; primitive < 8; primitive++) {
            is("with its box", x.upper(primitive, 8 + primitive), 8 + primitive);
            is("the other way round", x.upper(8 + primitive, primitive), 8 + primitive);
        }
        is("a primitive and an array of it", x.upper(2, x.array(2)), x.named(WRITES, 0, 0));
    }

    private static void upperOfArrays() {
        sentence("Both ARRAYS, neither of a primitive: the ARRAY of THE UPPER BOUND (to d) of the ELEMENTS.");
        for (int depth = 0; depth <= 2; depth++) {
            LeastBounds x = new LeastBounds(depth);
            int bound = x.upper(9, 10);
            is("arrays take no depth", x.upper(arrays(x, 9, 20), arrays(x, 10, 20)), arrays(x, bound, x.type(bound, 5) + 19));
            int others = x.lower(x.named(CLONES, 0, 0), x.named(WRITES, 0, 0));
            is("both of primitives", x.upper(x.array(1), x.array(2)), others);
            is("a of a primitive", x.upper(x.array(1), x.array(9)), others);
            is("b of a primitive", x.upper(x.array(9), x.array(1)), others);
            is("alike, of a primitive", x.upper(x.array(1), x.array(1)), x.array(1));
            is("of arrays of primitives", x.upper(x.array(x.array(1)), x.array(x.array(2))), x.array(others));
            is("of unlike depth", x.upper(arrays(x, 9, 3), arrays(x, 9, 2)), x.array(x.named(WRITES, 0, 0)));
            is("of an array and a box", x.upper(x.array(9), 9), x.named(WRITES, 0, 0));
        }
    }

    private static void upperLeast() {
        sentence("COMMON are the classes that a LOOK finds in both; LEAST those of them below which no COMMON one is");
        LeastBounds x = family();
        int row = x.named(14, EXACT, 10);
        int below = x.named(15, 0, 0);
        is("one is below the other", x.upper(row, below), row);
        is("common", x.common(row, below, 0), 3);
        is("least", x.common(row, below, 1), 1);
        is("just root", x.upper(row, 8), x.named(ROOT, 0, 0));
        is("common", x.common(row, 8, 0), 1);
        is("least", x.common(row, 8, 1), 1);
        int clones = x.named(CLONES, 0, 0);
        is("of faces beside one another", x.upper(clones, x.named(WRITES, 0, 0)), x.named(ROOT, 0, 0));
        is("an intersection and what is above", x.upper(x.lower(clones, 10), x.named(NUMBER, 0, 0)), x.named(NUMBER, 0, 0));
    }

    private static void upperArguments() {
        sentence("if both that were found have the same EXACT ARGUMENT, with that; else BOUNDED by THE UPPER BOUND (to d - 1) "
            + "of the types of both ARGUMENTS, and by ROOT, if d is 0.");
        for (int depth = 0; depth <= 2; depth++) {
            LeastBounds x = new LeastBounds(depth);
            x.declare(true, true);
            x.declare(true, true);
            x.above(13, PARAMETER);
            x.declare(true, true);
            x.above(13, PARAMETER);
            int root = x.named(ROOT, 0, 0);
            int held = depth == 0 ? root : 8;
            is("same, exact", x.upper(x.named(14, EXACT, 8), x.named(15, EXACT, 8)), x.named(13, EXACT, 8));
            is("same, bounded", x.upper(x.named(14, BOUNDED, 8), x.named(15, BOUNDED, 8)), x.named(13, BOUNDED, held));
            is("same type, the first exact", x.upper(x.named(14, EXACT, 8), x.named(15, BOUNDED, 8)), x.named(13, BOUNDED, held));
            is("same type, the second exact", x.upper(x.named(14, BOUNDED, 8), x.named(15, EXACT, 8)), x.named(13, BOUNDED, held));
            is("another, exact", x.upper(x.named(14, EXACT, 8), x.named(15, EXACT, root)), x.named(13, BOUNDED, root));
            // Each bound takes one of the depth: the type in the middle is told as long as some of it is left.
            int left = 8;
            int right = root;
            for (int i = 0; i < 3; i++) {
                left = x.named(14, EXACT, left);
                right = x.named(15, EXACT, right);
            }
            int due = root;
            for (int i = 0; i <= depth; i++) {
                due = x.named(13, BOUNDED, due);
            }
            is("down to the depth", x.upper(left, right), due);
        }
    }

    private static void upperSeveral() {
        sentence("Several are an INTERSECTION.");
        LeastBounds x = new LeastBounds(1);
        declareFaces(x, 28);
        int[] types = new int[2];
        for (int i = 0; i < 2; i++) {
            x.declare(false, false);
            for (int face = 13; face < 28; face++) {
                x.above(face, NONE);
            }
            types[i] = x.named(28 + i, 0, 0);
        }
        int bound = x.upper(types[0], types[1]);
        is("of fifteen", x.type(bound, 4), 15);
        is("least", x.common(types[0], types[1], 1), 15);
        is("root is not least", x.common(types[0], types[1], 0), 16);
        sentence("of each of these, by numbers, a NAMED type: without ARGUMENT, if it is not GENERIC");
        for (int i = 0; i < 15; i++) {
            is("by numbers", x.type(x.part(bound, i), 1), 13 + i);
            is("without argument", x.type(x.part(bound, i), 2), 0);
        }
        is("one is none", x.type(x.upper(bound, x.part(bound, 3)), 0), 1);
        is("made of", x.type(bound, 5), 16);
    }

    private static void lowerBelow() {
        sentence("THE LOWER BOUND of a, b: a, if it is BELOW b; else b, if it is BELOW a");
        LeastBounds x = new LeastBounds(1);
        int number = x.named(NUMBER, 0, 0);
        is("a", x.lower(10, number), 10);
        is("b", x.lower(number, 10), 10);
        is("alike", x.lower(3, 3), 3);
        is("a primitive stays one", x.lower(2, 10), 2);
        is("also as b", x.lower(number, 2), 2);
        is("arrays", x.lower(x.array(10), x.array(number)), x.array(10));
        is("an array and a face", x.lower(x.named(CLONES, 0, 0), x.array(3)), x.array(3));
    }

    private static void lowerWithoutParts() {
        sentence("else, if both have PARTS");
        LeastBounds x = new LeastBounds(1);
        int clones = x.named(CLONES, 0, 0);
        int array = x.array(9);
        is("two primitives", x.lower(0, 1), NONE);
        is("a primitive and a face", x.lower(0, clones), NONE);
        is("a face and a primitive", x.lower(clones, 0), NONE);
        is("two arrays", x.lower(array, x.array(10)), NONE);
        is("an array and a class", x.lower(array, 10), NONE);
        int before = x.told(2);
        is("a class and an array", x.lower(10, array), NONE);
        is("a primitive and an array", x.lower(1, array), NONE);
        sentence("Else there is none.");
        is("none is new", x.told(2), before);
    }

    private static void lowerLeavesParts() {
        sentence("of all PARTS those that none of the others (of alike ones the first) is BELOW");
        LeastBounds x = new LeastBounds(1);
        int root = x.named(ROOT, 0, 0);
        int clones = x.named(CLONES, 0, 0);
        int writes = x.named(WRITES, 0, 0);
        int number = x.named(NUMBER, 0, 0);
        int any = x.named(COMPARES, BOUNDED, root);
        int one = x.lower(writes, any);
        int other = x.lower(clones, number);
        int all = x.lower(one, other);
        is("writes is above number", x.type(all, 4), 3);
        is("clones", x.part(all, 0), clones);
        is("compares", x.part(all, 1), any);
        is("number", x.part(all, 2), number);
        is("the other way round", x.lower(other, one), all);
        int box = x.lower(x.lower(clones, 10), one);
        is("a box is below both", box, x.lower(clones, 10));
        int exact = x.named(COMPARES, EXACT, 9);
        is("of one class, one below the other", x.lower(x.lower(clones, exact), x.lower(writes, any)), x.lower(x.lower(clones, writes), exact));
    }

    private static void lowerOfAlikeParts() {
        sentence("(of alike ones the first)");
        LeastBounds x = new LeastBounds(1);
        declareFaces(x, 16);
        int a = x.named(13, 0, 0);
        int b = x.named(14, 0, 0);
        int c = x.named(15, 0, 0);
        int all = x.lower(x.lower(a, b), x.lower(b, c));
        is("b once", x.type(all, 4), 3);
        is("a", x.part(all, 0), a);
        is("b", x.part(all, 1), b);
        is("c", x.part(all, 2), c);
        int class10 = x.lower(x.lower(a, 10), x.lower(b, 10));
        is("a class once is no second one", x.type(class10, 4), 3);
        is("two alike ones", x.type(x.lower(x.lower(all, 10), x.lower(class10, c)), 4), 4);
    }

    private static void lowerOfPartsBelowOneAnother() {
        sentence("of all PARTS those that none of the others (of alike ones the first) is BELOW");
        LeastBounds x = new LeastBounds(1);
        declareFaces(x, 15);
        int face = x.named(14, 0, 0);
        int both = x.lower(x.named(13, 0, 0), face);
        x.above(13, NONE);
        int one = x.named(COMPARES, BOUNDED, face);
        int other = x.named(COMPARES, BOUNDED, both);
        is("unlike", one == other, false);
        is("below", x.isBelow(one, other), true);
        is("below, the other way round", x.isBelow(other, one), true);
        int clones = x.named(CLONES, 0, 0);
        int writes = x.named(WRITES, 0, 0);
        int due = x.lower(clones, writes);
        int left = x.lower(one, clones);
        int right = x.lower(other, writes);
        is("another is below each of the two", x.lower(left, right), due);
        is("the other way round", x.lower(right, left), due);
        is("where no other is, it stays", x.type(x.lower(left, writes), 4), 3);
        // Alone they are no matter of parts: a is BELOW b already.
        is("a", x.lower(one, other), one);
        is("a, the other way round", x.lower(other, one), other);
        is("a as an intersection", x.lower(left, other), left);
        is("parts that are below one another in one type", x.lower(both, clones), x.lower(face, clones));
    }

    private static void lowerOfOneClass() {
        sentence("there is none, if two of them are of one class, or of classes that are no FACES; they are an INTERSECTION.");
        LeastBounds x = new LeastBounds(1);
        int clones = x.named(CLONES, 0, 0);
        int writes = x.named(WRITES, 0, 0);
        int nine = x.named(COMPARES, EXACT, 9);
        int ten = x.named(COMPARES, EXACT, 10);
        int bounded = x.named(COMPARES, BOUNDED, 8);
        int before = x.told(2);
        is("exact and exact", x.lower(nine, ten), NONE);
        is("exact and bounded", x.lower(nine, bounded), NONE);
        is("bounded and exact", x.lower(bounded, nine), NONE);
        is("none is new", x.told(2), before);
        is("in intersections", x.lower(x.lower(clones, nine), x.lower(writes, ten)), NONE);
        is("where one falls out", x.type(x.lower(x.lower(clones, nine), 9), 4), 2);
        is("a class with another argument by its own", x.type(x.lower(9, ten), 4), 2);
    }

    private static void lowerOfClasses() {
        sentence("there is none, if two of them are of one class, or of classes that are no FACES; they are an INTERSECTION.");
        LeastBounds x = new LeastBounds(1);
        declareFaces(x, 15);
        int face = x.named(13, 0, 0);
        int second = x.named(14, 0, 0);
        int number = x.named(NUMBER, 0, 0);
        is("two classes", x.lower(9, 10), NONE);
        is("number and a box that is none", x.lower(number, 8), NONE);
        is("one class, one face", x.type(x.lower(9, face), 0), 3);
        is("one face, one class", x.lower(face, 9), x.lower(9, face));
        is("two faces", x.type(x.lower(face, second), 4), 2);
        is("two classes in intersections", x.lower(x.lower(9, face), x.lower(10, second)), NONE);
        is("and beside one", x.lower(9, x.lower(10, second)), NONE);
        is("one below the other", x.lower(x.lower(9, face), x.lower(number, second)), x.lower(x.lower(9, face), second));
        is("root falls out", x.lower(x.named(ROOT, 0, 0), x.lower(9, face)), x.lower(9, face));
    }

    private static void numberedFromTheLeft() {
        sentence("New types are numbered when they are told: PARTS, ARGUMENTS, ELEMENTS of one ahead of it, from the left, "
            + "those that are there already keeping theirs.");
        // Each row: kind, class, how and inner type of one, in the order in which they are told.
        LeastBounds x = new LeastBounds(1);
        is("a bound in arrays", x.upper(x.array(9), x.array(10)), 24);
        numbered(x, 18, new int[][] {{1, 0, 0, NONE}, {1, 3, 2, 18}, {1, 4, 0, NONE}, {3, NONE, 0, NONE}, {1, 3, 2, 21},
            {3, NONE, 0, NONE}, {2, NONE, 0, 23}});
        is("the inner intersection's first", x.part(21, 0), 19);
        is("the inner intersection's second", x.part(21, 1), 20);
        is("the outer intersection's first", x.part(23, 0), 22);
        is("the outer intersection's second, there already", x.part(23, 1), 20);

        LeastBounds y = new LeastBounds(2);
        is("two depths", y.upper(9, 10), 23);
        numbered(y, 16, new int[][] {{1, 0, 0, NONE}, {1, 3, 2, 16}, {1, 4, 0, NONE}, {3, NONE, 0, NONE}, {1, 3, 2, 19},
            {3, NONE, 0, NONE}, {1, 3, 2, 21}, {3, NONE, 0, NONE}});

        LeastBounds z = new LeastBounds(0);
        int arrays = z.array(1);
        is("a bound of three", z.upper(arrays, z.array(2)), 20);
        numbered(z, 18, new int[][] {{1, 1, 0, NONE}, {1, 2, 0, NONE}, {3, NONE, 0, NONE}});
    }

    private static void numbered(LeastBounds x, int from, int[][] due) {
        is("that many", x.told(2), from + due.length);
        for (int i = 0; i < due.length; i++) {
            for (int what = 0; what < 4; what++) {
                is("type " + (from + i) + ", what " + what, x.type(from + i, what), due[i][what]);
            }
        }
    }

    private static void numberedBehindWhatIsThere() {
        sentence("those that are there already keeping theirs");
        LeastBounds x = new LeastBounds(0);
        int number = x.named(NUMBER, 0, 0);
        is("number is there", x.upper(9, 10), 19);
        numbered(x, 16, new int[][] {{1, 4, 0, NONE}, {1, 0, 0, NONE}, {1, 3, 2, 17}, {3, NONE, 0, NONE}});
        is("the second part", x.part(19, 1), number);
        is("a lower bound alone is new", x.lower(x.named(CLONES, 0, 0), number), 21);
        is("what is found alone is new", x.look(9, COMPARES), 22);
        is("nothing is new", x.upper(10, 9), 19);
        is("so many", x.told(2), 23);
    }

    private static void noSuchNumber() {
        sentence("IndexOutOfBounds: there is no such class, type, part.");
        LeastBounds x = family();
        for (int n : new int[] {BEFORE, -2, -1, 16, 17, 30, 300, BEYOND}) {
            noIndex("above", () -> x.above(n, NONE));
            noIndex("named", () -> x.named(n, 0, 0));
            noIndex("look at", () -> x.look(8, n));
            noIndex("isUnder, first", () -> one(x.isUnder(n, 0)));
            noIndex("isUnder, second", () -> one(x.isUnder(0, n)));
            noIndex("classed", () -> x.classed(n, 0));
            noIndex("direct", () -> x.direct(n, 0, 0));
            noIndex("named exact", () -> x.named(13, EXACT, n));
            noIndex("named bounded", () -> x.named(13, BOUNDED, n));
            noIndex("array", () -> x.array(n));
            noIndex("upper, first", () -> x.upper(n, 8));
            noIndex("upper, second", () -> x.upper(8, n));
            noIndex("lower, first", () -> x.lower(n, 8));
            noIndex("lower, second", () -> x.lower(8, n));
            noIndex("isBelow, first", () -> one(x.isBelow(n, 8)));
            noIndex("isBelow, second", () -> one(x.isBelow(8, n)));
            noIndex("look in", () -> x.look(n, 0));
            noIndex("box", () -> x.box(n));
            noIndex("type", () -> x.type(n, 0));
            noIndex("part of", () -> x.part(n, 0));
            noIndex("part", () -> x.part(8, n));
            noIndex("common, first", () -> x.common(n, 8, 0));
            noIndex("common, second", () -> x.common(8, n, 0));
            noIndex("alike ones that are not there", () -> x.upper(n, n));
            noIndex("alike ones, lower", () -> x.lower(n, n));
            noIndex("alike ones, isBelow", () -> one(x.isBelow(n, n)));
        }
        is("the last class", x.classed(15, 0), 0);
        is("the last type", x.type(15, 0), 1);
    }

    private static void noneIsNew() {
        sentence("(then none is new)");
        for (int depth = 0; depth <= 2; depth++) {
            int many = 4 + 2 * depth;
            for (int room = 0; room <= many; room++) {
                LeastBounds x = fill(new LeastBounds(depth), 300 - room);
                if (room == many) {
                    is("room for all", x.upper(9, 10), 299);
                } else {
                    noState("room for " + room + " of " + many, () -> x.upper(9, 10));
                    is("none is new", x.told(2), 300 - room);
                    noState("nor is one the next time", () -> x.upper(9, 10));
                }
                if (room > 0 && room < many) {
                    is("the first free number is free", x.named(COMPARES, EXACT, 11), 300 - room);
                }
            }
        }
        LeastBounds y = new LeastBounds(0);
        y.declare(true, true);
        for (int i = 0; i < 2; i++) {
            y.declare(false, true);
            y.above(13, PARAMETER);
            y.above(COMPARES, PARAMETER);
        }
        int argument = arrays(y, 8, 49);
        int left = y.named(14, EXACT, argument);
        int right = y.named(15, EXACT, argument);
        int before = y.told(2);
        noState("two parts made of 50", () -> y.upper(left, right));
        is("its parts are not new", y.told(2), before);
        is("a part is told by itself", y.look(left, COMPARES), before);
        is("and the other", y.look(left, 13), before + 1);
    }

    private static void noneThatIsTold() {
        sentence("IllegalArgument: another number is none that is told.");
        LeastBounds x = new LeastBounds(1);
        for (int n : new int[] {BEFORE, -2, -1, 6, 7, BEYOND}) {
            noArgument("type", () -> x.type(8, n));
            noArgument("common", () -> x.common(8, 9, n));
            noArgument("classed", () -> x.classed(4, n));
            noArgument("direct", () -> x.direct(4, 0, n));
            noArgument("told", () -> x.told(n));
            noArgument("named, generic", () -> x.named(COMPARES, n, 8));
            noArgument("named, not generic", () -> x.named(NUMBER, n, 8));
        }
        noArgument("common 2", () -> x.common(8, 9, 2));
        noArgument("direct 2", () -> x.direct(4, 0, 2));
        noArgument("classed 4", () -> x.classed(4, 4));
        noArgument("told 4", () -> x.told(4));
        noArgument("named 3", () -> x.named(COMPARES, 3, 8));
        is("type 5", x.type(8, 5), 1);
        is("common 1", x.common(8, 9, 1), 2);
        is("direct 1", x.direct(4, 0, 1), NONE);
        is("classed 3", x.classed(4, 3), 2);
        is("told 3", x.told(3), 1);
    }

    private static void ofSeveralTheFirst() {
        sentence("Of several the first one.");
        LeastBounds x = family();
        noIndex("above: no class, and no argument", () -> x.above(16, -3));
        noIndex("above: no type, and the newest itself", () -> x.above(15, 16));
        noIndex("above: no type, and a second class", () -> x.above(4, 16));
        noIndex("above: no type, and already there", () -> x.above(14, 16));
        noState("above: a second class, and no argument", () -> x.above(4, -3));
        noState("above: already there, and NONE for a generic one", () -> x.above(14, NONE));
        noState("above: the newest itself, and not NONE", () -> x.above(15, 8));
        noArgument("above: a primitive, and found with another", () -> x.above(13, 1));
        noArgument("above: PARAMETER, and found with another", () -> x.above(13, PARAMETER));
        noArgument("above: NONE, and found with another", () -> x.above(13, NONE));
        noState("above: found with another", () -> x.above(13, 9));
        LeastBounds first = new LeastBounds(1);
        noIndex("above: no class, and none of one's own", () -> first.above(13, NONE));
        noIndex("above: no type, and none of one's own", () -> first.above(3, 16));
        noState("above: none of one's own, and no argument", () -> first.above(3, BEFORE));
        noIndex("named: no class, and how is none", () -> x.named(-1, 3, 8));
        noIndex("named: no type, and how is not as the class is", () -> x.named(4, EXACT, 16));
        noIndex("named: no type, and how is none", () -> x.named(13, 3, 16));
        noIndex("named: no type below 0, and how is below 0", () -> x.named(4, -1, -1));
        noArgument("named: how is 0, so the type is not looked at", () -> x.named(13, 0, 16));
        noIndex("type: no type, and what is none", () -> x.type(16, 6));
        noIndex("common: no first type, and what is none", () -> x.common(16, 8, 2));
        noIndex("common: no second type, and what is none", () -> x.common(8, 16, 2));
        noIndex("classed: no class, and what is none", () -> x.classed(16, 4));
        noIndex("direct: no class, and what is none", () -> x.direct(16, 0, 2));
        noIndex("direct: no i, and what is none", () -> x.direct(15, 1, 2));
    }

    private static void ofSeveralTheFirstAtTheLimits() {
        sentence("Of several the first one.");
        LeastBounds x = full();
        noIndex("named: no type", () -> x.named(COMPARES, EXACT, 300));
        noArgument("named: a primitive", () -> x.named(COMPARES, EXACT, 0));
        noArgument("named: how is not as the class is", () -> x.named(CLONES, EXACT, 8));
        noArgument("named: how is not as the generic class is", () -> x.named(COMPARES, 0, 8));
        noState("named", () -> x.named(CLONES, 0, 0));
        noIndex("array", () -> x.array(300));
        noIndex("upper, first", () -> x.upper(300, 9));
        noIndex("upper, second", () -> x.upper(9, -1));
        noIndex("lower, first", () -> x.lower(300, 9));
        noIndex("lower, second", () -> x.lower(9, -1));
        noIndex("look in", () -> x.look(300, COMPARES));
        noIndex("look at", () -> x.look(9, 13));
        noState("look", () -> x.look(9, COMPARES));
        LeastBounds y = new LeastBounds(1);
        int deep = arrays(y, 8, 100);
        noArgument("named: of 101, but how is not as the class is", () -> y.named(CLONES, EXACT, deep));
        noArgument("named: of 101, but how is none", () -> y.named(COMPARES, 3, deep));
        noState("named: of 101", () -> y.named(COMPARES, EXACT, deep));
    }

    private static void throwingChangesNothing() {
        sentence("A call that throws changes nothing.");
        Supplier<LeastBounds> made = () -> {
            LeastBounds x = family();
            x.named(15, 0, 0);
            x.array(2);
            x.upper(9, 10);
            x.isBelow(16, 16);
            return x;
        };
        changesNothing(made, INDEX, List.of(x -> x.above(16, NONE), x -> x.above(13, 99), x -> x.named(16, 0, 0), x -> x.named(13, 1, 99),
            x -> x.array(99), x -> x.upper(99, 8), x -> x.upper(8, 99), x -> x.lower(99, 8), x -> x.lower(8, 99),
            x -> one(x.isBelow(99, 8)), x -> one(x.isBelow(8, 99)), x -> x.look(99, 0), x -> x.look(0, 99), x -> x.box(99),
            x -> x.type(99, 0), x -> x.part(8, 1), x -> x.common(99, 8, 0), x -> one(x.isUnder(99, 0)), x -> x.classed(99, 0),
            x -> x.direct(0, 0, 0)));
        changesNothing(made, STATE, List.of(x -> x.above(15, NONE), x -> x.above(4, NONE), x -> x.above(0, NONE), x -> x.above(14, 10),
            x -> x.above(14, 9), x -> x.above(13, 9)));
        changesNothing(made, ARGUMENT, List.of(x -> x.above(13, -3), x -> x.above(13, 7), x -> x.above(13, NONE), x -> x.above(1, 8),
            x -> x.above(1, PARAMETER), x -> x.above(13, PARAMETER), x -> x.named(13, 0, 0), x -> x.named(13, 3, 8), x -> x.named(4, 1, 8),
            x -> x.named(13, 1, 7), x -> x.type(8, 6), x -> x.common(8, 8, 2), x -> x.classed(0, 4), x -> x.direct(4, 0, 2), x -> x.told(4)));
        changesNothing(() -> new LeastBounds(0), STATE, List.of(x -> x.above(1, NONE), x -> x.above(0, NONE), x -> x.above(3, 8)));
    }

    private static void throwingChangesNothingAtTheLimits() {
        sentence("A call that throws changes nothing.");
        changesNothing(LeastBoundsTermsTest::full, STATE, List.of(x -> x.named(CLONES, 0, 0), x -> x.named(COMPARES, 2, 8), x -> x.array(0),
            x -> x.look(9, COMPARES), x -> x.upper(9, 10)));
        for (int room = 1; room <= 7; room++) {
            int types = 300 - room;
            changesNothing(() -> fill(new LeastBounds(2), types), STATE, List.of(x -> x.upper(9, 10), x -> x.upper(1, 11), x -> x.upper(17, 18)));
        }
        changesNothing(() -> {
            LeastBounds x = new LeastBounds(1);
            x.named(CLONES, 0, 0);
            x.named(WRITES, 0, 0);
            return fill(x, 300);
        }, STATE, List.of(x -> x.lower(16, 17)));
        changesNothing(() -> {
            LeastBounds x = new LeastBounds(1);
            while (x.told(0) < 30) {
                x.declare(x.told(0) % 2 == 0, x.told(1) < 6);
            }
            return x;
        }, STATE, List.of(x -> x.declare(false, false), x -> x.declare(true, false), x -> x.declare(false, true), x -> x.declare(true, true)));
        changesNothing(() -> {
            LeastBounds x = new LeastBounds(1);
            for (int i = 0; i < 5; i++) {
                x.declare(true, true);
            }
            return x;
        }, STATE, List.of(x -> x.declare(false, true), x -> x.declare(true, true)));
        changesNothing(() -> {
            LeastBounds x = new LeastBounds(1);
            arrays(x, 9, 100);
            x.array(10);
            for (int i = 3; i <= 99; i++) {
                x.array(x.told(2) - 1);
            }
            x.named(CLONES, 0, 0);
            x.named(COMPARES, EXACT, 16 + 97);
            return x;
        }, STATE, List.of(x -> x.array(16 + 98), x -> x.named(COMPARES, 1, 16 + 98), x -> x.upper(16 + 98, x.told(2) - 3),
            x -> x.lower(x.told(2) - 2, x.told(2) - 1)));
    }

    /** Each of the calls is refused, and what the object tells is the same with it and without it. */
    private static void changesNothing(Supplier<LeastBounds> made, Class<?> want, List<ToIntFunction<LeastBounds>> calls) {
        String before = States.of(made);
        int number = 0;
        for (ToIntFunction<LeastBounds> call : calls) {
            String what = want.getSimpleName() + ", call " + number++;
            LeastBounds once = made.get();
            refuses(what, want, () -> call.applyAsInt(once));
            same(what, States.of(() -> afterwards(made.get(), call)), before);
        }
    }

    private static LeastBounds afterwards(LeastBounds x, ToIntFunction<LeastBounds> call) {
        try {
            call.applyAsInt(x);
        } catch (IndexOutOfBoundsException | IllegalStateException | IllegalArgumentException e) {
            return x;
        }
        return x;
    }
}
