/** The document's promises one by one: ordinary inputs, the edges that it names, wrong inputs. */
public final class LeastBoundsPromisesTest extends Checks {
    public static void main(String[] args) {
        promise1NewObject();
        promise2Declare();
        promise3Above();
        promise3AboveClash();
        promise4Named();
        promise5Array();
        promise6UpperNumbers();
        promise6UpperDepths();
        promise6UpperOthers();
        promise6UpperLimits();
        promise7Lower();
        promise7LowerEdges();
        promise8IsBelow();
        promise8IsBelowFar();
        promise9Look();
        promise10Box();
        promise11Type();
        promise12Part();
        promise13Common();
        promise14IsUnder();
        promise15Classed();
        promise16Direct();
        promise17Told();
        wholeLife();
        end();
    }

    private static void promise1NewObject() {
        is("depth below 0", new LeastBounds(-7).told(3), 0);
        is("depth 0", new LeastBounds(0).told(3), 0);
        is("depth 1", new LeastBounds(1).told(3), 1);
        is("depth 2", new LeastBounds(2).told(3), 2);
        is("depth above 2", new LeastBounds(BEYOND).told(3), 2);
        LeastBounds x = new LeastBounds(1);
        int[] above = {0, 1, 1, 1, 2, 3, 4, 4, 3, 4, 4, 4, 4};
        for (int c = 0; c < 13; c++) {
            is("face of " + c, x.classed(c, 0), c >= 1 && c <= 3 ? 1 : 0);
            is("generic of " + c, x.classed(c, 1), c == 3 ? 1 : 0);
            is("above " + c, x.classed(c, 3), above[c]);
        }
        for (int p = 0; p < 8; p++) {
            is("first above box " + p, x.direct(5 + p, 0, 0), p == 0 || p == 3 ? 0 : 4);
            is("second above box " + p, x.direct(5 + p, 1, 0), 2);
            is("third above box " + p, x.direct(5 + p, 2, 0), 3);
            is("argument of box " + p, x.direct(5 + p, 2, 1), 8 + p);
            is("kind of primitive " + p, x.type(p, 0), 0);
            is("kind of box type " + p, x.type(8 + p, 0), 1);
            is("class of box type " + p, x.type(8 + p, 1), 5 + p);
        }
    }

    private static void promise2Declare() {
        LeastBounds x = new LeastBounds(1);
        for (int i = 0; i < 5; i++) {
            is("generic class", x.declare(i % 2 == 0, true), 13 + i);
        }
        noState("a seventh generic class", () -> x.declare(true, true));
        is("nothing changed", x.told(0), 18);
        for (int i = 18; i < 30; i++) {
            is("class", x.declare(i % 2 == 0, false), i);
        }
        is("directly above the newest", x.classed(29, 2), 1);
        is("root above the newest", x.direct(29, 0, 0), 0);
        is("without argument", x.direct(29, 0, 1), NONE);
        noState("a 31st class", () -> x.declare(false, false));
        noState("a 31st, generic class", () -> x.declare(false, true));
        is("classes", x.told(0), 30);
        is("generic classes", x.told(1), 6);
        LeastBounds y = new LeastBounds(1);
        for (int i = 13; i < 30; i++) {
            y.declare(false, false);
        }
        noState("a generic one where there are 30", () -> y.declare(false, true));
    }

    private static void promise3Above() {
        LeastBounds x = new LeastBounds(1);
        noState("above for one of the first", () -> x.above(1, NONE));
        noIndex("no such class goes first", () -> x.above(13, NONE));
        noIndex("no such type goes first", () -> x.above(1, 16));
        x.declare(true, true);
        x.declare(true, false);
        noIndex("class below 0", () -> x.above(-1, NONE));
        noIndex("class beyond", () -> x.above(15, NONE));
        noIndex("type beyond", () -> x.above(13, 16));
        noIndex("type far beyond", () -> x.above(14, BEYOND));
        noState("the newest itself", () -> x.above(14, NONE));
        noState("the newest itself, with a bad argument", () -> x.above(14, BEFORE));
        noState("a class above a face", () -> x.above(4, NONE));
        noState("root above a face", () -> x.above(0, NONE));
        noArgument("argument below PARAMETER", () -> x.above(13, -3));
        noArgument("argument far below PARAMETER", () -> x.above(13, BEFORE));
        noArgument("a primitive", () -> x.above(13, 7));
        noArgument("NONE for a generic one", () -> x.above(13, NONE));
        noArgument("a type for another", () -> x.above(1, 8));
        noArgument("PARAMETER for another", () -> x.above(1, PARAMETER));
        noArgument("PARAMETER where the newest is not generic", () -> x.above(13, PARAMETER));
        is("nothing changed", x.classed(14, 2), 1);
        is("a generic face", x.above(13, 8), 2);
        is("its argument", x.direct(14, 1, 1), 8);
        noState("once more", () -> x.above(13, 8));
        is("another face", x.above(1, NONE), 3);
        is("its place", x.direct(14, 2, 0), 1);
        is("root stays first", x.direct(14, 0, 0), 0);

        x.declare(false, true);
        is("a face for a class", x.above(2, NONE), 2);
        is("PARAMETER", x.above(13, PARAMETER), 3);
        noState("root again", () -> x.above(0, NONE));
        is("a class in place of root", x.above(4, NONE), 3);
        is("is first", x.direct(15, 0, 0), 4);
        is("the face behind it", x.direct(15, 1, 0), 2);
        is("PARAMETER told", x.direct(15, 2, 1), PARAMETER);
        noState("a second class", () -> x.above(6, NONE));
        noState("root where there is a class", () -> x.above(0, NONE));
        is("still below root", one(x.isUnder(15, 0)), 1);
        is("four above", x.classed(15, 3), 4);
    }

    private static void promise3AboveClash() {
        LeastBounds x = new LeastBounds(1);
        x.declare(true, true);
        x.above(3, PARAMETER);
        x.declare(false, true);
        is("with a type", x.above(13, 8), 2);
        noState("found with 8, now with the parameter", () -> x.above(3, PARAMETER));
        noState("found with 8, now with 9", () -> x.above(3, 9));
        noArgument("a primitive goes ahead of that", () -> x.above(3, 1));
        is("the same is fine", x.above(3, 8), 3);
        noState("a box compares with itself", () -> x.above(6, NONE));
        is("the one that compares with 8", x.above(5, NONE), 3);
        is("in the first place", x.direct(14, 0, 0), 5);
        x.declare(true, true);
        is("the parameter", x.above(3, PARAMETER), 2);
        noState("found with the parameter, now by 13 with 8", () -> x.above(13, 8));
        is("by 13 with the parameter too", x.above(13, PARAMETER), 3);
        int own = x.named(15, 2, 8);
        is("found bounded", x.look(own, 3), x.named(3, 2, 8));
        x.declare(false, false);
        int self = x.named(16, 0, 0);
        is("itself as argument", x.above(3, self), 2);
        is("below comparing with itself", one(x.isBelow(self, x.named(3, 1, self))), 1);
    }

    private static void promise4Named() {
        LeastBounds x = new LeastBounds(1);
        noIndex("class below 0", () -> x.named(-1, 0, 0));
        noIndex("class beyond", () -> x.named(13, 0, 0));
        noIndex("type beyond", () -> x.named(3, 1, 16));
        noIndex("type below 0", () -> x.named(3, 2, -1));
        noIndex("type beyond goes ahead of how", () -> x.named(0, 1, 16));
        noIndex("and of a how that is none", () -> x.named(0, 3, BEFORE));
        noArgument("without argument, but generic", () -> x.named(3, 0, 8));
        noArgument("exact, but not generic", () -> x.named(0, 1, 8));
        noArgument("bounded, but not generic", () -> x.named(0, 2, 8));
        noArgument("how below 0", () -> x.named(3, -1, 8));
        noArgument("how above 2", () -> x.named(3, 3, 8));
        noArgument("an exact primitive", () -> x.named(3, 1, 0));
        noArgument("a bounded primitive", () -> x.named(3, 2, 7));
        is("nothing is new", x.told(2), 16);
        is("a box's type", x.named(5, 0, 0), 8);
        is("the type is not looked at", x.named(0, 0, BEYOND), 16);
        is("once only", x.named(0, 0, BEFORE), 16);
        is("exact", x.named(3, 1, 8), 17);
        is("bounded", x.named(3, 2, 8), 18);
        is("exact again", x.named(3, 1, 8), 17);
        is("of another", x.named(3, 1, 9), 19);
        int deep = x.named(4, 0, 0);
        for (int i = 0; i < 99; i++) {
            deep = x.named(3, 2, deep);
        }
        int last = deep;
        is("made of 100", x.type(last, 5), 100);
        int before = x.told(2);
        noState("made of 101", () -> x.named(3, 1, last));
        is("no type is new", x.told(2), before);
    }

    private static void promise5Array() {
        LeastBounds x = new LeastBounds(1);
        noIndex("type below 0", () -> x.array(-1));
        noIndex("type beyond", () -> x.array(16));
        is("of a primitive", x.array(0), 16);
        is("of a box", x.array(8), 17);
        is("once only", x.array(0), 16);
        is("kind", x.type(16, 0), 2);
        int deep = 16;
        for (int i = 2; i < 100; i++) {
            deep = x.array(deep);
        }
        int last = deep;
        is("made of 100", x.type(last, 5), 100);
        noState("made of 101", () -> x.array(last));
        LeastBounds y = new LeastBounds(1);
        fill(y, 300);
        noState("a 301st type", () -> y.array(299));
        is("300 types", y.told(2), 300);
        is("one that is there", y.array(8), 16);
        noState("a 301st named type", () -> y.named(3, 2, 299));
    }

    private static void promise6UpperNumbers() {
        LeastBounds x = new LeastBounds(1);
        noIndex("first type", () -> x.upper(16, 0));
        noIndex("second type", () -> x.upper(0, -1));
        is("alike primitives", x.upper(2, 2), 2);
        is("a primitive and its box", x.upper(2, 10), 10);
        is("a box and its primitive", x.upper(10, 2), 10);
        is("two numbers", x.upper(1, 2), 21);
        int[][] due = {{1, 0, 0, NONE}, {1, 3, 2, 16}, {1, 4, 0, NONE}, {3, NONE, 0, NONE}, {1, 3, 2, 19}, {3, NONE, 0, NONE}};
        for (int i = 0; i < due.length; i++) {
            for (int what = 0; what < 4; what++) {
                is("type " + (16 + i) + " what " + what, x.type(16 + i, what), due[i][what]);
            }
        }
        is("inner part 0", x.part(19, 0), 17);
        is("inner part 1", x.part(19, 1), 18);
        is("outer part 0", x.part(21, 0), 20);
        is("outer part 1", x.part(21, 1), 18);
        is("the same bound", x.upper(6, 15), 21);
    }

    private static void promise6UpperDepths() {
        LeastBounds none = new LeastBounds(0);
        is("depth 0", none.upper(9, 10), 19);
        is("its first part is bounded by root", none.type(none.part(19, 0), 3), 16);
        is("root", none.type(16, 1), 0);
        LeastBounds two = new LeastBounds(2);
        is("depth 2", two.upper(9, 10), 23);
        is("its size", two.type(23, 5), 10);

        // The same exact argument stays at depth 0; the same bounded one is bounded by root there, and by itself above.
        for (int depth = 0; depth <= 2; depth++) {
            LeastBounds x = new LeastBounds(depth);
            x.declare(true, true);
            x.declare(true, true);
            x.above(13, PARAMETER);
            x.declare(true, true);
            x.above(13, PARAMETER);
            int exact = x.upper(x.named(14, 1, 8), x.named(15, 1, 8));
            is("same exact, depth " + depth, exact, x.named(13, 1, 8));
            int bounded = x.upper(x.named(14, 2, 8), x.named(15, 2, 8));
            is("same bounded, depth " + depth, bounded, x.named(13, 2, depth == 0 ? x.named(0, 0, 0) : 8));
            int mixed = x.upper(x.named(14, 1, 8), x.named(15, 2, 8));
            is("exact and bounded, depth " + depth, mixed, bounded);
        }
    }

    private static void promise6UpperOthers() {
        LeastBounds x = new LeastBounds(1);
        int ints = x.array(2);
        int longs = x.array(4);
        int boxes = x.array(10);
        int bound = x.upper(ints, longs);
        is("arrays of primitives: an intersection", x.type(bound, 0), 3);
        is("of clones", x.type(x.part(bound, 0), 1), 1);
        is("and writes", x.type(x.part(bound, 1), 1), 2);
        is("an array of primitives and one of boxes", x.upper(ints, boxes), bound);
        is("alike arrays of primitives", x.upper(ints, ints), ints);
        int deep = x.upper(x.array(ints), x.array(longs));
        is("arrays of these", deep, x.array(bound));
        int numbers = x.upper(x.array(9), boxes);
        is("arrays of boxes", numbers, x.array(x.upper(9, 10)));
        is("an array and a box", x.upper(boxes, 10), x.named(2, 0, 0));
        int root = x.named(0, 0, 0);
        is("root and a primitive", x.upper(root, 3), root);
        is("an intersection and its part", x.upper(bound, x.named(1, 0, 0)), x.named(1, 0, 0));
        is("an intersection and an array", x.upper(bound, ints), bound);
        is("an intersection and a box", x.upper(bound, 10), x.named(2, 0, 0));
        is("number and a box", x.upper(x.named(4, 0, 0), 10), x.named(4, 0, 0));

        LeastBounds y = new LeastBounds(2);
        y.declare(false, false);
        y.above(3, y.array(2));
        y.declare(false, false);
        y.above(3, y.array(4));
        int both = y.upper(y.named(13, 0, 0), y.named(14, 0, 0));
        is("compares bounded by the arrays' bound", both, y.named(3, 2, y.upper(y.array(2), y.array(4))));
    }

    private static void promise6UpperLimits() {
        for (int free = 0; free <= 6; free++) {
            LeastBounds x = new LeastBounds(1);
            fill(x, 300 - free);
            if (free < 6) {
                noState("six new types where there is room for " + free, () -> x.upper(9, 10));
                is("none is new", x.told(2), 300 - free);
            } else {
                is("room for six", x.upper(9, 10), 299);
            }
            if (free == 2) {
                is("the next number is the first free one", x.named(2, 0, 0), 298);
                is("and the next", x.named(1, 0, 0), 299);
            }
        }
        // Two faces with the same exact argument: it counts in both.
        LeastBounds y = new LeastBounds(0);
        y.declare(true, true);
        y.declare(true, true);
        for (int i = 0; i < 2; i++) {
            y.declare(false, true);
            y.above(13, PARAMETER);
            y.above(14, PARAMETER);
            y.above(1, NONE);
        }
        int argument = 8;
        for (int i = 1; i < 48; i++) {
            argument = y.array(argument);
        }
        int good = y.upper(y.named(15, 1, argument), y.named(16, 1, argument));
        is("a bound made of 100", y.type(good, 5), 100);
        is("of three parts", y.type(good, 4), 3);
        int more = y.array(argument);
        int left = y.named(15, 1, more);
        int right = y.named(16, 1, more);
        int before = y.told(2);
        noState("a bound made of 102", () -> y.upper(left, right));
        is("none of its parts is new", y.told(2), before);
    }

    private static void promise7Lower() {
        LeastBounds x = new LeastBounds(1);
        noIndex("first type", () -> x.lower(-1, 0));
        noIndex("second type", () -> x.lower(0, 16));
        is("alike", x.lower(3, 3), 3);
        is("a primitive and its box", x.lower(2, 10), 2);
        is("a box and its primitive", x.lower(10, 2), 2);
        is("two primitives", x.lower(1, 2), NONE);
        is("two boxes", x.lower(9, 10), NONE);
        int number = x.named(4, 0, 0);
        int clones = x.named(1, 0, 0);
        int writes = x.named(2, 0, 0);
        int both = x.lower(writes, clones);
        is("two faces", both, 19);
        is("by classes, first", x.part(both, 0), clones);
        is("by classes, second", x.part(both, 1), writes);
        is("the other way round", x.lower(clones, writes), both);
        is("writes is needless beside number", x.lower(both, number), x.lower(clones, number));
        is("a new one", x.told(2), 21);
        is("an array and its face", x.lower(clones, x.array(0)), x.array(0));
        is("an array and a class", x.lower(number, x.array(0)), NONE);
        is("a primitive and a face it lacks", x.lower(clones, 1), NONE);
        int compares = x.named(3, 2, x.named(0, 0, 0));
        int exact8 = x.named(3, 1, 8);
        int exact9 = x.named(3, 1, 9);
        is("compares, below", x.lower(compares, exact8), exact8);
        is("one face with two arguments", x.lower(exact8, exact9), NONE);
        is("a class and a face", x.type(x.lower(10, exact8), 4), 2);
        is("a class that has the face", x.lower(9, exact9), 9);
    }

    private static void promise7LowerEdges() {
        LeastBounds x = new LeastBounds(1);
        int[] faces = new int[4];
        for (int i = 0; i < 4; i++) {
            faces[i] = x.named(x.declare(true, false), 0, 0);
        }
        int first = x.lower(faces[0], faces[1]);
        int second = x.lower(faces[1], faces[2]);
        int all = x.lower(first, second);
        is("an alike part once", x.type(all, 4), 3);
        for (int i = 0; i < 3; i++) {
            is("part " + i, x.part(all, i), faces[i]);
        }
        int withClass = x.lower(faces[3], 10);
        is("a class ahead of a face", x.part(withClass, 0), 10);
        is("two classes", x.lower(withClass, x.lower(faces[0], 9)), NONE);
        is("one class in both", x.type(x.lower(withClass, x.lower(faces[0], 10)), 4), 3);
        is("number is needless", x.lower(withClass, x.lower(faces[0], x.named(4, 0, 0))), x.lower(withClass, faces[0]));

        LeastBounds y = new LeastBounds(1);
        int clones = y.named(1, 0, 0);
        int writes = y.named(2, 0, 0);
        fill(y, 300);
        noState("a 301st type", () -> y.lower(clones, writes));
        is("none where there is none", y.lower(9, 10), NONE);
        is("one that is there", y.lower(9, writes), 9);

        LeastBounds z = new LeastBounds(1);
        int deep = z.named(0, 0, 0);
        for (int i = 0; i < 97; i++) {
            deep = z.named(3, 2, deep);
        }
        int inner = deep;
        int outer = z.named(3, 2, inner);
        is("made of 100", z.type(z.lower(inner, z.named(1, 0, 0)), 5), 100);
        int before = z.told(2);
        noState("made of 101", () -> z.lower(outer, z.named(1, 0, 0)));
        is("none is new", z.told(2), before);
        int under = 8;
        for (int i = 0; i < 98; i++) {
            under = z.named(3, 2, under);
        }
        is("99 deep", z.lower(outer, under), under);
        is("99 deep, the other way round", z.lower(under, outer), under);
        promise7LowerBothBelow();
    }

    /** Two parts that are BELOW one another, but not alike: each is one of the others that is BELOW the other one. */
    private static void promise7LowerBothBelow() {
        LeastBounds x = new LeastBounds(1);
        x.declare(true, false);
        x.declare(true, false);
        int face = x.named(14, 0, 0);
        int both = x.lower(x.named(13, 0, 0), face);
        x.above(13, NONE);
        int one = x.named(3, 2, face);
        int other = x.named(3, 2, both);
        is("below", x.isBelow(one, other), true);
        is("and above", x.isBelow(other, one), true);
        is("the first of two", x.lower(one, other), one);
        is("the first of two, the other way round", x.lower(other, one), other);
        int clones = x.named(1, 0, 0);
        int writes = x.named(2, 0, 0);
        int bound = x.lower(x.lower(one, clones), x.lower(other, writes));
        is("neither stays", bound, x.lower(clones, writes));
    }

    private static void promise8IsBelow() {
        LeastBounds x = new LeastBounds(1);
        noIndex("first type", () -> one(x.isBelow(16, 0)));
        noIndex("second type", () -> one(x.isBelow(0, BEFORE)));
        is("alike", x.isBelow(3, 3), true);
        is("primitives", x.isBelow(1, 2), false);
        is("a primitive below its box", x.isBelow(2, 10), true);
        is("a box below its primitive", x.isBelow(10, 2), false);
        int root = x.named(0, 0, 0);
        int number = x.named(4, 0, 0);
        int clones = x.named(1, 0, 0);
        int writes = x.named(2, 0, 0);
        is("a primitive below number", x.isBelow(2, number), true);
        is("truth below number", x.isBelow(0, number), false);
        is("a box below root", x.isBelow(12, root), true);
        is("root below a box", x.isBelow(root, 12), false);
        int exact = x.named(3, 1, 10);
        int bounded = x.named(3, 2, number);
        is("exact and alike", x.isBelow(10, exact), true);
        is("exact and another", x.isBelow(9, exact), false);
        is("fits into the bound", x.isBelow(exact, bounded), true);
        is("a primitive, too", x.isBelow(2, bounded), true);
        is("does not fit", x.isBelow(8, bounded), false);
        is("bounded into exact", x.isBelow(x.named(3, 2, 10), exact), false);
        is("bounded into bounded", x.isBelow(x.named(3, 2, 10), bounded), true);
        is("bounded into a lower one", x.isBelow(bounded, x.named(3, 2, 10)), false);
        is("exact number into bounded box", x.isBelow(x.named(3, 1, number), x.named(3, 2, 10)), false);
        int both = x.lower(clones, writes);
        int ints = x.array(2);
        is("an array below both", x.isBelow(ints, both), true);
        is("a box below both", x.isBelow(10, both), false);
        is("both below one", x.isBelow(both, writes), true);
        is("one below both", x.isBelow(writes, both), false);
        is("an array below number", x.isBelow(ints, number), false);
        is("arrays of primitives", x.isBelow(ints, x.array(4)), false);
        is("of a primitive and its box", x.isBelow(ints, x.array(10)), false);
        is("of a box and number", x.isBelow(x.array(10), x.array(number)), true);
        is("of number and a box", x.isBelow(x.array(number), x.array(10)), false);
        is("of arrays of primitives and root", x.isBelow(x.array(ints), x.array(root)), true);
        is("of a primitive and root", x.isBelow(ints, x.array(root)), false);
        is("a box below an array", x.isBelow(10, x.array(10)), false);
        // Any part may fit, not just the first in which the class is found.
        int two = x.lower(x.named(3, 1, 8), 10);
        is("the second part fits", x.isBelow(two, exact), true);
        is("a look takes the first", x.look(two, 3), x.named(3, 1, 8));
        // What is below may change with the newest class.
        x.declare(true, false);
        int face = x.named(13, 0, 0);
        is("not yet", x.isBelow(face, clones), false);
        x.above(1, NONE);
        is("now", x.isBelow(face, clones), true);
    }

    private static void promise8IsBelowFar() {
        LeastBounds x = new LeastBounds(1);
        int one = 8;
        int other = x.named(0, 0, 0);
        for (int i = 0; i < 99; i++) {
            one = x.named(3, 2, one);
            other = x.named(3, 2, other);
        }
        is("100 deep", x.isBelow(one, other), true);
        is("100 deep, not below", x.isBelow(other, one), false);

        // Each face compares with the intersection of all up to it: without kept answers this would not end.
        LeastBounds y = new LeastBounds(1);
        int all = y.named(y.declare(true, false), 0, 0);
        y.above(3, all);
        for (int i = 14; i < 30; i++) {
            all = y.lower(all, y.named(y.declare(true, false), 0, 0));
            y.above(3, all);
        }
        int chain = y.named(4, 0, 0);
        int good = y.named(0, 0, 0);
        for (int i = 0; i < 99; i++) {
            chain = y.named(3, 2, chain);
            good = y.named(3, 2, good);
        }
        is("never number", y.isBelow(all, chain), false);
        is("always root", y.isBelow(all, good), true);
    }

    private static void promise9Look() {
        LeastBounds x = new LeastBounds(1);
        noIndex("type", () -> x.look(16, 0));
        noIndex("class", () -> x.look(0, 13));
        noIndex("class below 0", () -> x.look(0, -1));
        is("own class", x.look(10, 7), 10);
        is("a primitive's box", x.look(2, 7), 10);
        is("not above", x.look(10, 1), NONE);
        is("a class below", x.look(x.named(4, 0, 0), 7), NONE);
        is("with its argument", x.look(2, 3), 17);
        is("exact", x.type(17, 2), 1);
        is("itself", x.type(17, 3), 10);
        int array = x.array(2);
        is("root of an array", x.look(array, 0), 19);
        is("clones of an array", x.look(array, 1), 20);
        is("writes of an array", x.look(array, 2), 21);
        for (int c = 3; c < 13; c++) {
            is("class " + c + " of an array", x.look(array, c), NONE);
        }
        x.declare(true, true);
        x.declare(false, true);
        x.above(13, PARAMETER);
        x.declare(false, false);
        x.above(14, 9);
        is("bounded stays bounded", x.look(x.named(14, 2, 8), 13), x.named(13, 2, 8));
        is("exact stays exact", x.look(x.named(14, 1, 8), 13), x.named(13, 1, 8));
        int before = x.told(2);
        int type = x.named(15, 0, 0);
        is("on by a told argument", x.look(type, 13), before + 1);
        is("no type between them is new", x.told(2), before + 2);
        is("told argument", x.type(before + 1, 3), 9);

        LeastBounds y = new LeastBounds(1);
        int deep = y.named(0, 0, 0);
        for (int i = 0; i < 99; i++) {
            deep = y.array(deep);
        }
        y.declare(false, false);
        is("a told argument made of 100", y.above(3, deep), 2);
        int huge = y.named(13, 0, 0);
        noState("what would be found is made of 101", () -> y.look(huge, 3));
        is("but is common", y.common(huge, huge, 0), 3);

        LeastBounds z = new LeastBounds(1);
        z.named(0, 0, 0);
        fill(z, 300);
        noState("a 301st type", () -> z.look(10, 3));
        is("one that is there", z.look(10, 0), 16);
        is("none", z.look(10, 1), NONE);
    }

    private static void promise10Box() {
        LeastBounds x = new LeastBounds(1);
        noIndex("type below 0", () -> x.box(-1));
        noIndex("type beyond", () -> x.box(16));
        for (int p = 0; p < 8; p++) {
            is("box of " + p, x.box(p), 8 + p);
            is("box of a box", x.box(8 + p), 8 + p);
        }
        is("of an array of a primitive", x.box(x.array(0)), 16);
    }

    private static void promise11Type() {
        LeastBounds x = new LeastBounds(1);
        noIndex("type", () -> x.type(16, 0));
        noIndex("type goes ahead of what", () -> x.type(-1, 9));
        noArgument("what below 0", () -> x.type(0, -1));
        noArgument("what above 5", () -> x.type(0, 6));
        int exact = x.named(3, 1, 8);
        int bounded = x.named(3, 2, exact);
        int array = x.array(bounded);
        int both = x.lower(bounded, x.named(1, 0, 0));
        int[] types = {0, 8, exact, bounded, array, both};
        int[][] due = {
            {0, NONE, 0, NONE, 0, 1}, {1, 5, 0, NONE, 1, 1}, {1, 3, 1, 8, 1, 2}, {1, 3, 2, exact, 1, 3},
            {2, NONE, 0, bounded, 0, 4}, {3, NONE, 0, NONE, 2, 5}};
        for (int i = 0; i < types.length; i++) {
            for (int what = 0; what <= 5; what++) {
                is("type " + types[i] + " what " + what, x.type(types[i], what), due[i][what]);
            }
        }
    }

    private static void promise12Part() {
        LeastBounds x = new LeastBounds(1);
        noIndex("type", () -> x.part(16, 0));
        noIndex("type below 0", () -> x.part(-1, 0));
        is("a named type's", x.part(8, 0), 8);
        noIndex("no second one", () -> x.part(8, 1));
        noIndex("part below 0", () -> x.part(8, -1));
        noIndex("a primitive's", () -> x.part(0, 0));
        int array = x.array(8);
        noIndex("an array's", () -> x.part(array, 0));
        int writes = x.named(2, 0, 0);
        int clones = x.named(1, 0, 0);
        int both = x.lower(writes, clones);
        is("first", x.part(both, 0), clones);
        is("second", x.part(both, 1), writes);
        noIndex("third", () -> x.part(both, 2));
        noIndex("far", () -> x.part(both, BEYOND));
        noIndex("below 0", () -> x.part(both, BEFORE));
    }

    private static void promise13Common() {
        LeastBounds x = new LeastBounds(1);
        noIndex("first type", () -> x.common(16, 0, 0));
        noIndex("second type", () -> x.common(0, 16, 9));
        noArgument("what below 0", () -> x.common(0, 0, -1));
        noArgument("what above 1", () -> x.common(0, 0, 2));
        is("numbers", x.common(1, 10, 0), 4);
        is("numbers, least", x.common(1, 10, 1), 2);
        is("truth and letter", x.common(0, 3, 0), 3);
        is("truth and letter, least", x.common(0, 3, 1), 2);
        is("alike", x.common(2, 2, 0), 5);
        is("alike, least", x.common(2, 2, 1), 1);
        int array = x.array(0);
        is("arrays", x.common(array, x.array(1), 0), 3);
        is("arrays, least", x.common(array, array, 1), 2);
        is("an array and a box", x.common(array, 8, 0), 2);
        is("an array and a box, least", x.common(array, 8, 1), 1);
        int both = x.lower(x.named(1, 0, 0), 10);
        is("an intersection and an array", x.common(both, array, 0), 3);
        is("an intersection and itself, least", x.common(both, both, 1), 2);
        is("no type is new", x.told(2), 20);
    }

    private static void promise14IsUnder() {
        LeastBounds x = new LeastBounds(1);
        noIndex("first class", () -> one(x.isUnder(13, 0)));
        noIndex("second class", () -> one(x.isUnder(0, -1)));
        is("not itself", x.isUnder(0, 0), false);
        is("number and root", x.isUnder(4, 0), true);
        is("root and number", x.isUnder(0, 4), false);
        is("a box and number", x.isUnder(6, 4), true);
        is("a box that is no number", x.isUnder(5, 4), false);
        x.declare(true, false);
        x.declare(true, false);
        is("not yet", x.isUnder(14, 13), false);
        x.above(13, NONE);
        x.declare(false, false);
        x.above(14, NONE);
        is("over two", x.isUnder(15, 13), true);
        is("and to root", x.isUnder(15, 0), true);
    }

    private static void promise15Classed() {
        LeastBounds x = new LeastBounds(1);
        noIndex("class", () -> x.classed(13, 0));
        noIndex("class goes ahead of what", () -> x.classed(-1, 9));
        noArgument("what below 0", () -> x.classed(0, -1));
        noArgument("what above 3", () -> x.classed(0, 4));
        x.declare(true, true);
        x.above(3, PARAMETER);
        x.declare(false, false);
        x.above(7, NONE);
        x.above(1, NONE);
        int[][] due = {{1, 1, 2, 2}, {0, 0, 2, 6}};
        for (int what = 0; what <= 3; what++) {
            is("face, what " + what, x.classed(13, what), due[0][what]);
            is("class, what " + what, x.classed(14, what), due[1][what]);
        }
        is("root has none above", x.classed(0, 2), 0);
    }

    private static void promise16Direct() {
        LeastBounds x = new LeastBounds(1);
        noIndex("class", () -> x.direct(13, 0, 0));
        noIndex("class below 0", () -> x.direct(-1, 0, 0));
        noIndex("i below 0", () -> x.direct(4, -1, 0));
        noIndex("i beyond", () -> x.direct(4, 2, 0));
        noIndex("i goes ahead of what", () -> x.direct(0, 0, 9));
        noArgument("what below 0", () -> x.direct(4, 0, -1));
        noArgument("what above 1", () -> x.direct(4, 0, 2));
        is("number's first", x.direct(4, 0, 0), 0);
        is("number's second", x.direct(4, 1, 0), 2);
        is("without argument", x.direct(4, 1, 1), NONE);
        x.declare(true, true);
        x.above(3, PARAMETER);
        is("with the parameter", x.direct(13, 1, 1), PARAMETER);
        is("with a type", x.direct(12, 2, 1), 15);
    }

    private static void promise17Told() {
        LeastBounds x = new LeastBounds(1);
        noArgument("what below 0", () -> x.told(-1));
        noArgument("what above 3", () -> x.told(4));
        is("classes", x.told(0), 13);
        is("generic", x.told(1), 1);
        is("types", x.told(2), 16);
        is("depth", x.told(3), 1);
        x.declare(false, true);
        x.array(0);
        is("one more class", x.told(0), 14);
        is("one more generic", x.told(1), 2);
        is("one more type", x.told(2), 17);
    }

    /** The constants, and numbers far out in every place: nothing but the document's exceptions may come. */
    private static void wholeLife() {
        is("NONE", NONE, -1);
        is("PARAMETER", PARAMETER, -2);
        int[] odd = {BEFORE, -3, -2, -1, 0, 1, 3, 8, 13, 15, 16, 30, 300, BEYOND};
        LeastBounds x = new LeastBounds(2);
        x.declare(true, true);
        for (int a : odd) {
            for (int b : odd) {
                for (int c : odd) {
                    onlyTold(() -> x.named(a, b, c));
                    onlyTold(() -> x.direct(a, b, c));
                    onlyTold(() -> x.common(a, b, c));
                }
                onlyTold(() -> x.above(a, b));
                onlyTold(() -> x.upper(a, b));
                onlyTold(() -> x.lower(a, b));
                onlyTold(() -> one(x.isBelow(a, b)));
                onlyTold(() -> x.look(a, b));
                onlyTold(() -> x.type(a, b));
                onlyTold(() -> x.part(a, b));
                onlyTold(() -> one(x.isUnder(a, b)));
                onlyTold(() -> x.classed(a, b));
            }
            onlyTold(() -> x.array(a));
            onlyTold(() -> x.box(a));
            onlyTold(() -> x.told(a));
        }
    }
}
