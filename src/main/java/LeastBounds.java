import java.util.Arrays;

/**
 * Least upper and greatest lower bounds of types, over classes and faces that the caller declares.
 * The words in capitals in the comments are those of the document's section "Terms".
 */
public final class LeastBounds {
    public static final int NONE = -1, PARAMETER = -2;

    private static final int MOST_CLASSES = 30, MOST_GENERIC = 6, MOST_TYPES = 300, MOST_MADE_OF = 100, MOST_DEPTH = 2;

    private static final int ROOT = 0, CLONES = 1, WRITES = 2, COMPARES = 3, NUMBER = 4, FIRST_BOX = 5, FIRST_OWN = 13;
    private static final int PRIMITIVES = 8, TRUTH = 0, LETTER = 3;

    private static final int PRIMITIVE = 0, NAMED = 1, ARRAY = 2, INTERSECTION = 3;

    // An argument is one int, so that a LOOK makes neither an object nor a type:
    // WITHOUT, or four times its type and EXACT or BOUNDED.
    private static final int WITHOUT = 0, EXACT = 1, BOUNDED = 2;
    private static final int NOT_FOUND = -1, OWN = -2;

    private final int depth;
    private final Classes classes;
    private final Types types;
    private final Answers answers;
    // One stretch of MOST_CLASSES parts for each depth of bounds, so that a bound's bound leaves its parts alone.
    private final int[] row;
    private final int[] gathered;

    public LeastBounds(int depth) {
        this.depth = Math.max(0, Math.min(MOST_DEPTH, depth));
        classes = new Classes();
        types = new Types();
        answers = new Answers();
        row = new int[(MOST_DEPTH + 1) * MOST_CLASSES];
        gathered = new int[2 * MOST_CLASSES];
    }

    public int declare(boolean face, boolean generic) throws IllegalStateException {
        if (classes.count() >= MOST_CLASSES) {
            throw new IllegalStateException("there are 30 classes");
        }
        if (generic && classes.countGeneric() >= MOST_GENERIC) {
            throw new IllegalStateException("there are six generic classes");
        }
        return classes.add(face, generic);
    }

    public int above(int above, int argument) throws IndexOutOfBoundsException, IllegalStateException, IllegalArgumentException {
        requireClass(above);
        if (argument >= 0) {
            requireType(argument);
        }
        if (!classes.mayGet(above)) {
            throw new IllegalStateException("the newest class can't get this one");
        }
        if (!isTellable(above, argument)) {
            throw new IllegalArgumentException("no argument for this class");
        }
        if (classes.clashes(above, argument)) {
            throw new IllegalStateException("a generic class would be found with two arguments");
        }
        answers.forget();
        return classes.put(above, argument);
    }

    public int named(int named, int how, int argument) throws IndexOutOfBoundsException, IllegalArgumentException, IllegalStateException {
        requireClass(named);
        if (how != WITHOUT) {
            requireType(argument);
        }
        boolean hasArgument = how == EXACT || how == BOUNDED;
        if (!hasArgument && how != WITHOUT || hasArgument != classes.isGeneric(named)) {
            throw new IllegalArgumentException("how is not as the class is");
        }
        if (hasArgument && types.kindOf(argument) == PRIMITIVE) {
            throw new IllegalArgumentException("a primitive is no argument");
        }
        return settled(types.makeNamed(named, argumentOf(how, argument)));
    }

    public int array(int type) throws IndexOutOfBoundsException, IllegalStateException {
        requireType(type);
        return settled(types.makeArray(type));
    }

    public int upper(int a, int b) throws IndexOutOfBoundsException, IllegalStateException {
        requireType(a);
        requireType(b);
        return settled(upperBound(a, b, depth));
    }

    public int lower(int a, int b) throws IndexOutOfBoundsException, IllegalStateException {
        requireType(a);
        requireType(b);
        if (liesBelow(a, b, MOST_MADE_OF)) {
            return a;
        }
        if (liesBelow(b, a, MOST_MADE_OF)) {
            return b;
        }
        int parts = orderByClass(dropNeedless(gatherParts(a, b)));
        return parts == 0 ? NONE : settled(types.makeIntersection(row, 0, parts));
    }

    public boolean isBelow(int a, int b) throws IndexOutOfBoundsException {
        requireType(a);
        requireType(b);
        return liesBelow(a, b, MOST_MADE_OF);
    }

    public int look(int type, int named) throws IndexOutOfBoundsException, IllegalStateException {
        requireType(type);
        requireClass(named);
        int found = find(type, named);
        return found == NOT_FOUND ? NONE : settled(types.makeNamed(named, found));
    }

    public int box(int type) throws IndexOutOfBoundsException, IllegalStateException {
        requireType(type);
        return types.kindOf(type) == PRIMITIVE ? boxTypeOf(type) : type;
    }

    public int type(int type, int what) throws IndexOutOfBoundsException, IllegalArgumentException {
        requireType(type);
        switch (what) {
            case 0: return types.kindOf(type);
            case 1: return types.classOf(type);
            case 2: return howOf(types.argumentAt(type));
            case 3: return types.kindOf(type) == ARRAY ? types.elementOf(type) : typeOf(types.argumentAt(type));
            case 4: return types.countParts(type);
            case 5: return types.sizeOf(type);
            default: throw new IllegalArgumentException("what is 0 to 5");
        }
    }

    public int part(int type, int i) throws IndexOutOfBoundsException {
        requireType(type);
        if (i < 0 || i >= types.countParts(type)) {
            throw new IndexOutOfBoundsException("no such part");
        }
        return types.partOf(type, i);
    }

    public int common(int a, int b, int what) throws IndexOutOfBoundsException, IllegalArgumentException {
        requireType(a);
        requireType(b);
        switch (what) {
            case 0: return Integer.bitCount(commonOf(a, b));
            case 1: return Integer.bitCount(classes.leastOf(commonOf(a, b)));
            default: throw new IllegalArgumentException("what is 0 or 1");
        }
    }

    public boolean isUnder(int a, int b) throws IndexOutOfBoundsException {
        requireClass(a);
        requireClass(b);
        return has(classes.aboveOf(a), b);
    }

    public int classed(int named, int what) throws IndexOutOfBoundsException, IllegalArgumentException {
        requireClass(named);
        switch (what) {
            case 0: return classes.isFace(named) ? 1 : 0;
            case 1: return classes.isGeneric(named) ? 1 : 0;
            case 2: return classes.countDirect(named);
            case 3: return Integer.bitCount(classes.aboveOf(named));
            default: throw new IllegalArgumentException("what is 0 to 3");
        }
    }

    public int direct(int named, int i, int what) throws IndexOutOfBoundsException, IllegalArgumentException {
        requireClass(named);
        if (i < 0 || i >= classes.countDirect(named)) {
            throw new IndexOutOfBoundsException("no such class directly above");
        }
        switch (what) {
            case 0: return classes.directAt(named, i);
            case 1: return classes.toldAt(named, i);
            default: throw new IllegalArgumentException("what is 0 or 1");
        }
    }

    public int told(int what) throws IllegalArgumentException {
        switch (what) {
            case 0: return classes.count();
            case 1: return classes.countGeneric();
            case 2: return types.count();
            case 3: return depth;
            default: throw new IllegalArgumentException("what is 0 to 3");
        }
    }

    private void requireClass(int named) {
        if (!classes.isThere(named)) {
            throw new IndexOutOfBoundsException("no such class");
        }
    }

    private void requireType(int type) {
        if (!types.isThere(type)) {
            throw new IndexOutOfBoundsException("no such type");
        }
    }

    /** The end of every call that makes types: what was made stays, or, if it was too much, nothing of it. */
    private int settled(int made) {
        if (made == NONE) {
            types.dropUnsettled();
            throw new IllegalStateException("more than 300 types, or one made of more than 100");
        }
        types.settle();
        return made;
    }

    private boolean isTellable(int above, int argument) {
        if (!classes.isGeneric(above)) {
            return argument == NONE;
        }
        if (argument == PARAMETER) {
            return classes.isGeneric(classes.newest());
        }
        return argument >= 0 && types.kindOf(argument) != PRIMITIVE;
    }

    private static int argumentOf(int how, int type) {
        return how == WITHOUT ? WITHOUT : type * 4 + how;
    }

    private static int howOf(int argument) {
        return argument <= WITHOUT ? WITHOUT : argument & 3;
    }

    private static int typeOf(int argument) {
        return argument <= WITHOUT ? NONE : argument >> 2;
    }

    private static boolean has(int set, int named) {
        return (set >> named & 1) != 0;
    }

    private static int boxTypeOf(int primitive) {
        return PRIMITIVES + primitive;
    }

    /** A LOOK: the ARGUMENT with which a class is found in a type, or NOT_FOUND. */
    private int find(int type, int named) {
        if (types.kindOf(type) == ARRAY) {
            return named == ROOT || named == CLONES || named == WRITES ? WITHOUT : NOT_FOUND;
        }
        int holders = countHolders(type);
        for (int i = 0; i < holders; i++) {
            int holder = types.kindOf(type) == PRIMITIVE ? boxTypeOf(type) : types.partOf(type, i);
            int found = classes.climb(types.classOf(holder), types.argumentAt(holder), named);
            if (found != NOT_FOUND) {
                return found;
            }
        }
        return NOT_FOUND;
    }

    /** How many PARTS a type has; one without PARTS stands for itself. */
    private int countHolders(int type) {
        return Math.max(1, types.countParts(type));
    }

    /**
     * Whether a is BELOW b. Each level goes on to something that b is made of, so MOST_MADE_OF levels hold every b.
     * Answers are kept: parts of a that come back to one another by told arguments would else be asked without end.
     */
    private boolean liesBelow(int a, int b, int levels) {
        if (a == b) {
            return true;
        }
        if (levels <= 0) {
            return false;
        }
        int kept = answers.read(a, b);
        if (kept != Answers.UNKNOWN) {
            return kept == Answers.YES;
        }
        boolean answer;
        switch (types.kindOf(b)) {
            case NAMED:
                answer = hasFittingPart(a, b, levels - 1);
                break;
            case ARRAY:
                answer = isArrayOfOthers(a) && isArrayOfOthers(b) && liesBelow(types.elementOf(a), types.elementOf(b), levels - 1);
                break;
            case INTERSECTION:
                answer = liesBelowParts(a, b, levels - 1);
                break;
            default:
                answer = false;
        }
        answers.keep(a, b, answer);
        return answer;
    }

    private boolean hasFittingPart(int a, int b, int levels) {
        int named = types.classOf(b);
        int wanted = types.argumentAt(b);
        int holders = countHolders(a);
        for (int i = 0; i < holders; i++) {
            int found = find(types.countParts(a) == 0 ? a : types.partOf(a, i), named);
            if (found == NOT_FOUND) {
                continue;
            }
            if (found == wanted || howOf(wanted) == BOUNDED && liesBelow(typeOf(found), typeOf(wanted), levels)) {
                return true;
            }
        }
        return false;
    }

    private boolean liesBelowParts(int a, int b, int levels) {
        int parts = types.countParts(b);
        for (int i = 0; i < parts; i++) {
            if (!liesBelow(a, types.partOf(b, i), levels)) {
                return false;
            }
        }
        return true;
    }

    private boolean isArrayOfOthers(int type) {
        return types.kindOf(type) == ARRAY && types.kindOf(types.elementOf(type)) != PRIMITIVE;
    }

    /** THE UPPER BOUND; NONE if it would be too much. Arrays are peeled in a loop, so only bounds of bounds recur. */
    private int upperBound(int a, int b, int toDepth) {
        int left = a;
        int right = b;
        int layers = 0;
        while (layers < MOST_MADE_OF && left != right && isArrayOfOthers(left) && isArrayOfOthers(right)) {
            left = types.elementOf(left);
            right = types.elementOf(right);
            layers++;
        }
        int bound = left == right ? left : boundByClasses(left, right, toDepth);
        for (int i = 0; i < layers && bound != NONE; i++) {
            bound = types.makeArray(bound);
        }
        return bound;
    }

    private int boundByClasses(int a, int b, int toDepth) {
        if (toDepth < 0 || toDepth > MOST_DEPTH) {
            return NONE;
        }
        int least = classes.leastOf(commonOf(a, b));
        int from = toDepth * MOST_CLASSES;
        int parts = 0;
        for (int named = 0; named < MOST_CLASSES; named++) {
            if (has(least, named)) {
                int made = types.makeNamed(named, boundArgument(find(a, named), find(b, named), toDepth));
                if (made == NONE) {
                    return NONE;
                }
                row[from + parts] = made;
                parts++;
            }
        }
        return types.makeIntersection(row, from, parts);
    }

    /** The ARGUMENT that holds both; NOT_FOUND if its bound would be too much. */
    private int boundArgument(int one, int other, int toDepth) {
        if (one == other && howOf(one) != BOUNDED) {
            return one;
        }
        int bound = toDepth == 0
            ? types.makeNamed(ROOT, WITHOUT)
            : upperBound(typeOf(one), typeOf(other), toDepth - 1);
        return bound == NONE ? NOT_FOUND : argumentOf(BOUNDED, bound);
    }

    private int commonOf(int a, int b) {
        return foundIn(a) & foundIn(b);
    }

    /** The set of the classes that a LOOK finds in a type. */
    private int foundIn(int type) {
        switch (types.kindOf(type)) {
            case PRIMITIVE: return classes.withAbove(types.classOf(boxTypeOf(type)));
            case ARRAY: return 1 << ROOT | 1 << CLONES | 1 << WRITES;
            default: break;
        }
        int set = 0;
        int parts = types.countParts(type);
        for (int i = 0; i < parts; i++) {
            set |= classes.withAbove(types.classOf(types.partOf(type, i)));
        }
        return set;
    }

    /** Puts the PARTS of both types into gathered: how many; 0 if one of the types has none. */
    private int gatherParts(int a, int b) {
        int ofA = Math.min(MOST_CLASSES, types.countParts(a));
        int ofB = Math.min(MOST_CLASSES, types.countParts(b));
        if (ofA == 0 || ofB == 0) {
            return 0;
        }
        for (int i = 0; i < ofA; i++) {
            gathered[i] = types.partOf(a, i);
        }
        for (int i = 0; i < ofB; i++) {
            gathered[ofA + i] = types.partOf(b, i);
        }
        return ofA + ofB;
    }

    /** Leaves of the gathered parts those that none of the others is BELOW, of alike ones the first: how many. */
    private int dropNeedless(int count) {
        int left = 0;
        next:
        for (int i = 0; i < count; i++) {
            int part = gathered[i];
            for (int j = 0; j < count; j++) {
                int other = gathered[j];
                if (other == part ? j < i : liesBelow(other, part, MOST_MADE_OF)) {
                    continue next;
                }
            }
            row[left] = part;
            left++;
        }
        System.arraycopy(row, 0, gathered, 0, left);
        return left;
    }

    /** Puts the gathered parts into row, in the order of their classes: how many; 0 if they can't stand together. */
    private int orderByClass(int count) {
        Arrays.fill(row, NONE);
        int solid = 0;
        for (int i = 0; i < count; i++) {
            int named = types.classOf(gathered[i]);
            if (named < 0 || named >= MOST_CLASSES || row[named] != NONE) {
                return 0;
            }
            if (!classes.isFace(named)) {
                solid++;
            }
            row[named] = gathered[i];
        }
        return solid > 1 ? 0 : closeRow();
    }

    private int closeRow() {
        int parts = 0;
        for (int named = 0; named < MOST_CLASSES; named++) {
            if (row[named] != NONE) {
                row[parts] = row[named];
                parts++;
            }
        }
        return parts;
    }

    /** The classes, and for each the set of those above it, one bit a class. */
    private static final class Classes {
        private final boolean[] faces = new boolean[MOST_CLASSES];
        private final boolean[] generics = new boolean[MOST_CLASSES];
        private final int[] above = new int[MOST_CLASSES];
        private final int[] directCounts = new int[MOST_CLASSES];
        private final int[] directs = new int[MOST_CLASSES * MOST_CLASSES];
        private final int[] tolds = new int[MOST_CLASSES * MOST_CLASSES];
        private int count = 0;
        private int countGeneric = 0;

        Classes() {
            add(false, false);
            add(true, false);
            add(true, false);
            add(true, true);
            add(false, false);
            put(WRITES, NONE);
            for (int i = 0; i < PRIMITIVES; i++) {
                add(false, false);
                if (i != TRUTH && i != LETTER) {
                    put(NUMBER, NONE);
                }
                put(WRITES, NONE);
                put(COMPARES, boxTypeOf(i));
            }
        }

        int count() {
            return count;
        }

        int countGeneric() {
            return countGeneric;
        }

        int newest() {
            return count - 1;
        }

        boolean isThere(int named) {
            return named >= 0 && named < count;
        }

        boolean isFace(int named) {
            return isThere(named) && faces[named];
        }

        boolean isGeneric(int named) {
            return isThere(named) && generics[named];
        }

        int aboveOf(int named) {
            return isThere(named) ? above[named] : 0;
        }

        int withAbove(int named) {
            return isThere(named) ? above[named] | 1 << named : 0;
        }

        int countDirect(int named) {
            return isThere(named) ? directCounts[named] : 0;
        }

        int directAt(int named, int i) {
            return isThere(named) && i >= 0 && i < directCounts[named] ? directs[named * MOST_CLASSES + i] : NONE;
        }

        int toldAt(int named, int i) {
            return isThere(named) && i >= 0 && i < directCounts[named] ? tolds[named * MOST_CLASSES + i] : NONE;
        }

        int add(boolean face, boolean generic) {
            if (count >= MOST_CLASSES) {
                return NONE;
            }
            int named = count;
            count++;
            faces[named] = face;
            generics[named] = generic;
            if (generic) {
                countGeneric++;
            }
            if (named != ROOT) {
                write(named, 0, ROOT, NONE);
            }
            return named;
        }

        /** Whether nothing of the first IllegalState of promise 3 holds for the newest class and this one. */
        boolean mayGet(int named) {
            int newest = newest();
            if (newest < FIRST_OWN || named == newest) {
                return false;
            }
            boolean takesClassPlace = !isFace(named);
            if (takesClassPlace && (isFace(newest) || directAt(newest, 0) != ROOT)) {
                return false;
            }
            return !isDirectly(newest, named);
        }

        private boolean isDirectly(int named, int sought) {
            int direct = countDirect(named);
            for (int i = 0; i < direct; i++) {
                if (directAt(named, i) == sought) {
                    return true;
                }
            }
            return false;
        }

        /** Whether a GENERIC class is found in the newest, and would be found by this one with another ARGUMENT. */
        boolean clashes(int named, int told) {
            int newest = newest();
            int both = aboveOf(newest) & withAbove(named);
            for (int sought = 0; sought < count; sought++) {
                if (has(both, sought) && isGeneric(sought)
                    && climb(newest, OWN, sought) != climb(named, passOn(told, OWN), sought)) {
                    return true;
                }
            }
            return false;
        }

        /** The newest class gets one more, a class in ROOT's place: how many it has. */
        int put(int named, int told) {
            int newest = newest();
            int place = isFace(named) ? countDirect(newest) : 0;
            write(newest, place, named, told);
            return countDirect(newest);
        }

        private void write(int named, int place, int direct, int told) {
            if (!isThere(named) || !isThere(direct) || place < 0 || place >= MOST_CLASSES) {
                return;
            }
            directs[named * MOST_CLASSES + place] = direct;
            tolds[named * MOST_CLASSES + place] = told;
            directCounts[named] = Math.max(directCounts[named], place + 1);
            above[named] |= withAbove(direct);
        }

        /** The ARGUMENT with which a class is found from another one that has its own; NOT_FOUND. */
        int climb(int from, int own, int sought) {
            int at = from;
            int argument = own;
            for (int steps = 0; steps < MOST_CLASSES && at != sought; steps++) {
                int i = firstToward(at, sought);
                if (i == NONE) {
                    return NOT_FOUND;
                }
                argument = passOn(toldAt(at, i), argument);
                at = directAt(at, i);
            }
            return at == sought ? argument : NOT_FOUND;
        }

        private int firstToward(int named, int sought) {
            if (!isThere(named)) {
                return NONE;
            }
            for (int i = 0; i < directCounts[named]; i++) {
                int next = directs[named * MOST_CLASSES + i];
                if (next == sought || isThere(next) && has(above[next], sought)) {
                    return i;
                }
            }
            return NONE;
        }

        private static int passOn(int told, int own) {
            if (told == PARAMETER) {
                return own;
            }
            return told == NONE ? WITHOUT : argumentOf(EXACT, told);
        }

        /** Those of a set of classes below which none of the set is. */
        int leastOf(int set) {
            int covered = 0;
            for (int named = 0; named < count; named++) {
                if (has(set, named)) {
                    covered |= above[named];
                }
            }
            return set & ~covered;
        }
    }

    /** The types, each with one number. A call's new ones stand unsettled until the call is known to succeed. */
    private static final class Types {
        private final int[] kinds = new int[MOST_TYPES];
        private final int[] named = new int[MOST_TYPES];
        private final int[] arguments = new int[MOST_TYPES];
        private final int[] elements = new int[MOST_TYPES];
        private final int[] sizes = new int[MOST_TYPES];
        private final int[] partStarts = new int[MOST_TYPES];
        private final int[] partCounts = new int[MOST_TYPES];
        // The parts of all intersections behind one another; it grows, as most objects have few.
        private int[] parts = new int[64];
        private int partsUsed = 0;
        private int count = 0;
        private int settledParts = 0;
        private int settledCount = 0;

        Types() {
            for (int i = 0; i < PRIMITIVES; i++) {
                append(PRIMITIVE, 1);
            }
            for (int i = 0; i < PRIMITIVES; i++) {
                makeNamed(FIRST_BOX + i, WITHOUT);
            }
            settle();
        }

        int count() {
            return count;
        }

        boolean isThere(int type) {
            return type >= 0 && type < count;
        }

        int kindOf(int type) {
            return isThere(type) ? kinds[type] : NONE;
        }

        int classOf(int type) {
            return isThere(type) ? named[type] : NONE;
        }

        int argumentAt(int type) {
            return isThere(type) ? arguments[type] : WITHOUT;
        }

        int elementOf(int type) {
            return isThere(type) ? elements[type] : NONE;
        }

        int sizeOf(int type) {
            return isThere(type) ? sizes[type] : 0;
        }

        int countParts(int type) {
            return isThere(type) ? partCounts[type] : 0;
        }

        int partOf(int type, int i) {
            if (!isThere(type) || i < 0 || i >= partCounts[type]) {
                return NONE;
            }
            if (kinds[type] == NAMED) {
                return type;
            }
            int place = partStarts[type] + i;
            return place >= 0 && place < partsUsed && place < parts.length ? parts[place] : NONE;
        }

        void settle() {
            settledCount = count;
            settledParts = partsUsed;
        }

        void dropUnsettled() {
            count = settledCount;
            partsUsed = settledParts;
        }

        /** The NAMED type with this ARGUMENT; NONE if it would be too much, or the ARGUMENT already was. */
        int makeNamed(int ofClass, int argument) {
            if (argument < WITHOUT) {
                return NONE;
            }
            for (int type = 0; type < count; type++) {
                if (kinds[type] == NAMED && named[type] == ofClass && arguments[type] == argument) {
                    return type;
                }
            }
            int type = append(NAMED, 1 + sizeOf(typeOf(argument)));
            if (type != NONE) {
                named[type] = ofClass;
                arguments[type] = argument;
                partCounts[type] = 1;
            }
            return type;
        }

        /** The ARRAY of a type; NONE if it would be too much. */
        int makeArray(int element) {
            for (int type = 0; type < count; type++) {
                if (kinds[type] == ARRAY && elements[type] == element) {
                    return type;
                }
            }
            int type = append(ARRAY, 1 + sizeOf(element));
            if (type != NONE) {
                elements[type] = element;
            }
            return type;
        }

        /** The INTERSECTION of many types that lie in a row, in order, or the only one; NONE if it would be too much. */
        int makeIntersection(int[] from, int start, int many) {
            if (from == null || start < 0 || many < 1 || many > from.length - start) {
                return NONE;
            }
            if (many == 1) {
                return from[start];
            }
            int size = 1;
            for (int i = 0; i < many; i++) {
                size += sizeOf(from[start + i]);
            }
            int known = findIntersection(from, start, many);
            if (known != NONE) {
                return known;
            }
            int type = append(INTERSECTION, size);
            if (type != NONE) {
                appendParts(type, from, start, many);
            }
            return type;
        }

        private int findIntersection(int[] from, int start, int many) {
            for (int type = 0; type < count; type++) {
                if (kinds[type] == INTERSECTION && partCounts[type] == many && hasParts(type, from, start)) {
                    return type;
                }
            }
            return NONE;
        }

        private boolean hasParts(int type, int[] from, int start) {
            for (int i = 0; i < partCounts[type] && start + i < from.length; i++) {
                if (partOf(type, i) != from[start + i]) {
                    return false;
                }
            }
            return true;
        }

        private void appendParts(int type, int[] from, int start, int many) {
            if (partsUsed + many > parts.length) {
                parts = Arrays.copyOf(parts, 2 * (partsUsed + many));
            }
            System.arraycopy(from, start, parts, partsUsed, many);
            partStarts[type] = partsUsed;
            partCounts[type] = many;
            partsUsed += many;
        }

        /** One more type, as yet without class, ARGUMENT, ELEMENT and PARTS; NONE if it would be too much. */
        private int append(int kind, int size) {
            if (count >= MOST_TYPES || size > MOST_MADE_OF) {
                return NONE;
            }
            int type = count;
            count++;
            kinds[type] = kind;
            named[type] = NONE;
            arguments[type] = WITHOUT;
            elements[type] = NONE;
            sizes[type] = size;
            partStarts[type] = 0;
            partCounts[type] = 0;
            return type;
        }
    }

    /** What has been answered of BELOW since the classes last changed: two bits for each pair of types. */
    private static final class Answers {
        static final int UNKNOWN = 0, NO = 1, YES = 2;

        private final int[] cells = new int[(MOST_TYPES * MOST_TYPES + 15) / 16];
        private boolean empty = true;

        private static boolean isPair(int a, int b) {
            return a >= 0 && a < MOST_TYPES && b >= 0 && b < MOST_TYPES;
        }

        int read(int a, int b) {
            if (!isPair(a, b)) {
                return UNKNOWN;
            }
            int pair = a * MOST_TYPES + b;
            return cells[pair >> 4] >> 2 * (pair & 15) & 3;
        }

        void keep(int a, int b, boolean answer) {
            if (!isPair(a, b)) {
                return;
            }
            int pair = a * MOST_TYPES + b;
            cells[pair >> 4] |= (answer ? YES : NO) << 2 * (pair & 15);
            empty = false;
        }

        void forget() {
            if (!empty) {
                Arrays.fill(cells, 0);
                empty = true;
            }
        }
    }
}
