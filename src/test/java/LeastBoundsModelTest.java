import java.util.ArrayList;
import java.util.HashMap;
import java.util.List;
import java.util.Map;
import java.util.Random;

/**
 * Plays the same calls on LeastBounds and on a slow model that holds types as trees and follows the
 * document's sentences one by one, and compares every answer and exception. The seeds are fixed.
 */
public final class LeastBoundsModelTest {
    private static final int RUNS = 1500, CALLS = 512, STYLES = 6, DEEP = 2, WIDE = 5;
    private static int wrong = 0;

    public static void main(String[] args) {
        Map<String, Integer> seen = new HashMap<>();
        for (int run = 0; run < RUNS && wrong < 20; run++) {
            play(run, seen);
        }
        for (String outcome : List.of("declare ISE", "above IOOBE", "above ISE", "above IAE", "above n", "named ISE", "named IAE",
            "named IOOBE", "array ISE", "upper ISE", "upper n", "lower ISE", "lower n", "lower NONE", "look n", "look NONE", "look ISE",
            "isBelow n", "part n", "part IOOBE", "direct n", "direct IOOBE", "direct IAE", "common n", "type NONE")) {
            if (!seen.containsKey(outcome)) {
                wrong++;
                System.out.println("no run came to the outcome " + outcome);
            }
        }
        System.out.println(wrong == 0 ? "the model agrees" : wrong + " differences from the model");
        if (wrong != 0) {
            System.exit(1);
        }
    }

    private static void play(int seed, Map<String, Integer> seen) {
        Random random = new Random(seed);
        int depth = random.nextInt(5) - 1;
        LeastBounds real = new LeastBounds(depth);
        Model model = new Model(depth);
        int style = seed % STYLES;
        for (int i = 0; i < CALLS; i++) {
            Call call = Call.any(random, model, style, i);
            String want = call.answerOf(model);
            String got = call.answerOf(real);
            String kind = want.equals("-1") ? "NONE" : want.endsWith("E") ? want : "n";
            seen.merge(call.name + " " + kind, 1, Integer::sum);
            if (!want.equals(got)) {
                wrong++;
                System.out.println("seed " + seed + ", call " + i + ": " + call + " answered " + got + ", the model " + want);
                return;
            }
        }
        compareStates(seed, real, model);
    }

    private static void compareStates(int seed, LeastBounds real, Model model) {
        for (int type = 0; type < model.types.size(); type++) {
            for (int what = 0; what <= 5; what++) {
                same(seed, new Call("type", type, what, 0), real, model);
            }
            for (int i = 0; i <= model.types.get(type).parts().size(); i++) {
                same(seed, new Call("part", type, i, 0), real, model);
            }
        }
        for (int named = 0; named < model.classes.size(); named++) {
            for (int what = 0; what <= 3; what++) {
                same(seed, new Call("classed", named, what, 0), real, model);
            }
            for (int i = 0; i <= model.classes.get(named).directs.size(); i++) {
                same(seed, new Call("direct", named, i, 0), real, model);
                same(seed, new Call("direct", named, i, 1), real, model);
            }
        }
    }

    private static void same(int seed, Call call, LeastBounds real, Model model) {
        String want = call.answerOf(model);
        String got = call.answerOf(real);
        if (!want.equals(got)) {
            wrong++;
            System.out.println("seed " + seed + ", at the end: " + call + " answered " + got + ", the model " + want);
        }
    }

    private record Call(String name, int a, int b, int c) {
        static Call any(Random random, Model model, int style, int i) {
            String[] names = {"declare", "above", "named", "array", "upper", "lower", "isBelow", "look", "box", "type", "part",
                "common", "isUnder", "classed", "direct", "told"};
            int[][] weights = {
                {3, 14, 14, 4, 16, 14, 16, 12, 1, 3, 2, 4, 2, 2, 2, 1},
                {8, 30, 20, 4, 6, 10, 16, 12, 1, 3, 2, 4, 2, 2, 2, 1},
                {3, 30, 20, 20, 30, 30, 4, 30, 1, 1, 1, 1, 1, 1, 1, 1},
                {4, 10, 8, 2, 30, 30, 20, 4, 1, 1, 1, 4, 1, 1, 1, 1},
                {6, 30, 40, 1, 1, 1, 1, 10, 1, 1, 1, 1, 1, 1, 1, 1},
                {3, 14, 10, 6, 30, 30, 4, 30, 1, 1, 1, 1, 1, 1, 1, 1}};
            int[] weight = weights[style];
            int grows = 0;
            if (i < 60) {
                weight = new int[] {8, 40, 12, 2, 4, 8, 1, 1, 0, 0, 0, 0, 0, 0, 0, 0};
            } else if (style == DEEP && i < 200 || style == WIDE && i < 400) {
                grows = style == DEEP ? 200 : 2;
                weight = new int[] {0, 0, 9, style == DEEP ? 1 : 9, style == DEEP ? 0 : 1, 0, 0, 0, 0, 0, 0, 0, 0, 0, 0, 0};
            }
            int sum = 0;
            for (int w : weight) {
                sum += w;
            }
            int left = random.nextInt(sum);
            int at = 0;
            while (left >= weight[at]) {
                left -= weight[at];
                at++;
            }
            return of(names[at], random, model, grows);
        }

        /** Runs that grow take the newest type again and again (all but one time in so many), until the limits refuse. */
        private static Call of(String name, Random random, Model model, int grows) {
            int what = random.nextInt(20) == 0 ? random.nextInt(9) - 1 : -9;
            switch (name) {
                case "declare": return new Call(name, random.nextInt(3) == 0 ? 0 : 1, random.nextInt(3) == 0 ? 1 : 0, 0);
                case "above": return anyAbove(random, model);
                case "named": {
                    int named = grows > 0 ? 3 : anyClass(random, model);
                    boolean generic = named >= 0 && named < model.classes.size() && model.classes.get(named).generic;
                    int how = random.nextInt(25) == 0 ? random.nextInt(5) - 1 : generic ? 1 + random.nextInt(2) : 0;
                    return new Call(name, named, how, grown(random, model, grows));
                }
                case "array": return new Call(name, grown(random, model, grows), 0, 0);
                case "look": return new Call(name, anyType(random, model), anyClass(random, model), 0);
                case "type": return new Call(name, anyType(random, model), what == -9 ? random.nextInt(6) : what, 0);
                case "part": return new Call(name, anyType(random, model), random.nextInt(5) - 1, 0);
                case "common": return new Call(name, anyType(random, model), anyType(random, model), what == -9 ? random.nextInt(2) : what);
                case "isUnder": return new Call(name, anyClass(random, model), anyClass(random, model), 0);
                case "classed": return new Call(name, anyClass(random, model), what == -9 ? random.nextInt(4) : what, 0);
                case "direct": return new Call(name, anyClass(random, model), random.nextInt(5) - 1, what == -9 ? random.nextInt(2) : what);
                case "told": return new Call(name, what == -9 ? random.nextInt(4) : what, 0, 0);
                default: return new Call(name, anyType(random, model), anyType(random, model), 0);
            }
        }

        private static int grown(Random random, Model model, int grows) {
            return grows > 0 && random.nextInt(grows) != 0 ? model.types.size() - 1 : anyType(random, model);
        }

        private static Call anyAbove(Random random, Model model) {
            int named = anyClass(random, model);
            boolean generic = named >= 0 && named < model.classes.size() && model.classes.get(named).generic;
            int argument = !generic ? -1 : random.nextInt(3) == 0 ? -2 : anyType(random, model);
            if (random.nextInt(20) == 0) {
                argument = random.nextInt(6) - 4;
            }
            return new Call("above", named, argument, 0);
        }

        private static int anyClass(Random random, Model model) {
            int count = model.classes.size();
            switch (random.nextInt(40)) {
                case 0: return -1;
                case 1: return count;
                case 2: return random.nextBoolean() ? Integer.MAX_VALUE : Integer.MIN_VALUE;
                default: break;
            }
            return random.nextInt(3) == 0 || count == 13 ? random.nextInt(count) : 13 + random.nextInt(count - 13);
        }

        private static int anyType(Random random, Model model) {
            int count = model.types.size();
            switch (random.nextInt(60)) {
                case 0: return -1;
                case 1: return count;
                case 2: return random.nextBoolean() ? Integer.MAX_VALUE : Integer.MIN_VALUE;
                default: break;
            }
            int near = Math.min(count, 12);
            return random.nextInt(3) == 0 ? count - 1 - random.nextInt(near) : random.nextInt(count);
        }

        String answerOf(LeastBounds x) {
            try {
                switch (name) {
                    case "declare": return "" + x.declare(a == 1, b == 1);
                    case "above": return "" + x.above(a, b);
                    case "named": return "" + x.named(a, b, c);
                    case "array": return "" + x.array(a);
                    case "upper": return "" + x.upper(a, b);
                    case "lower": return "" + x.lower(a, b);
                    case "isBelow": return x.isBelow(a, b) ? "1" : "0";
                    case "look": return "" + x.look(a, b);
                    case "box": return "" + x.box(a);
                    case "type": return "" + x.type(a, b);
                    case "part": return "" + x.part(a, b);
                    case "common": return "" + x.common(a, b, c);
                    case "isUnder": return x.isUnder(a, b) ? "1" : "0";
                    case "classed": return "" + x.classed(a, b);
                    case "direct": return "" + x.direct(a, b, c);
                    default: return "" + x.told(a);
                }
            } catch (RuntimeException e) {
                return shortName(e);
            }
        }

        String answerOf(Model x) {
            try {
                return "" + x.call(name, a, b, c);
            } catch (RuntimeException e) {
                return shortName(e);
            }
        }

        private static String shortName(RuntimeException e) {
            if (e.getClass() == IllegalStateException.class) {
                return "ISE";
            }
            if (e.getClass() == IllegalArgumentException.class) {
                return "IAE";
            }
            return e.getClass() == IndexOutOfBoundsException.class ? "IOOBE" : e.toString();
        }
    }

    /** how: 0 without ARGUMENT, 1 EXACT, 2 BOUNDED; inner: the ARGUMENT's type, or the ELEMENT. */
    private record Tree(int kind, int named, int how, Tree inner, List<Tree> members) {
        List<Tree> parts() {
            return kind == 1 ? List.of(this) : members;
        }

        int size() {
            int size = 1 + (inner == null ? 0 : inner.size());
            for (Tree member : members) {
                size += member.size();
            }
            return size;
        }
    }

    private static final class Cls {
        boolean face;
        boolean generic;
        List<Integer> directs = new ArrayList<>();
        List<Integer> tolds = new ArrayList<>();
    }

    private static final class Model {
        final List<Cls> classes = new ArrayList<>();
        final List<Tree> types = new ArrayList<>();
        final Map<Tree, Map<Tree, Boolean>> below = new HashMap<>();
        final int depth;

        Model(int depth) {
            this.depth = depth < 0 ? 0 : depth > 2 ? 2 : depth;
            for (int i = 0; i < 13; i++) {
                addClass(i >= 1 && i <= 3, i == 3, i == 0 ? List.of() : i <= 3 ? List.of(0) : i == 4 ? List.of(0, 2)
                    : i == 5 || i == 8 ? List.of(0, 2, 3) : List.of(4, 2, 3));
            }
            for (int i = 0; i < 8; i++) {
                classes.get(5 + i).tolds.set(2, 8 + i);
                types.add(new Tree(0, i, 0, null, List.of()));
            }
            for (int i = 0; i < 8; i++) {
                types.add(named(5 + i, 0, null));
            }
        }

        private void addClass(boolean face, boolean generic, List<Integer> directs) {
            Cls cls = new Cls();
            cls.face = face;
            cls.generic = generic;
            for (int direct : directs) {
                cls.directs.add(direct);
                cls.tolds.add(-1);
            }
            classes.add(cls);
        }

        static Tree named(int named, int how, Tree argument) {
            return new Tree(1, named, how, argument, List.of());
        }

        static Tree arrayOf(Tree element) {
            return new Tree(2, -1, 0, element, List.of());
        }

        int call(String name, int a, int b, int c) {
            switch (name) {
                case "declare": return declare(a == 1, b == 1);
                case "above": return above(a, b);
                case "named": return makeNamed(a, b, c);
                case "array": return number(arrayOf(typeAt(a)));
                case "upper": return number(upper(typeAt(a), typeAt(b), depth));
                case "lower": return lower(typeAt(a), typeAt(b));
                case "isBelow": return isBelow(typeAt(a), typeAt(b)) ? 1 : 0;
                case "look": return lookAt(a, b);
                case "box": return typeAt(a).kind == 0 ? 8 + a : a;
                case "type": return tell(a, b);
                case "part": return part(a, b);
                case "common": return common(a, b, c);
                case "isUnder": classAt(a); classAt(b); return isUnder(a, b) ? 1 : 0;
                case "classed": return classed(a, b);
                case "direct": return direct(a, b, c);
                default: return told(a);
            }
        }

        private static void need(boolean good, RuntimeException otherwise) {
            if (!good) {
                throw otherwise;
            }
        }

        private Tree typeAt(int type) {
            need(type >= 0 && type < types.size(), new IndexOutOfBoundsException());
            return types.get(type);
        }

        private Cls classAt(int named) {
            need(named >= 0 && named < classes.size(), new IndexOutOfBoundsException());
            return classes.get(named);
        }

        private int number(Tree tree) {
            int before = types.size();
            enter(tree);
            boolean good = types.size() <= 300;
            for (int i = before; i < types.size(); i++) {
                good &= types.get(i).size() <= 100;
            }
            if (!good) {
                types.subList(before, types.size()).clear();
                throw new IllegalStateException();
            }
            return types.indexOf(tree);
        }

        private void enter(Tree tree) {
            if (types.contains(tree)) {
                return;
            }
            if (tree.inner != null) {
                enter(tree.inner);
            }
            for (Tree member : tree.members) {
                enter(member);
            }
            types.add(tree);
        }

        private int genericCount() {
            int count = 0;
            for (Cls cls : classes) {
                count += cls.generic ? 1 : 0;
            }
            return count;
        }

        private int declare(boolean face, boolean generic) {
            need(classes.size() < 30, new IllegalStateException());
            need(!generic || genericCount() < 6, new IllegalStateException());
            addClass(face, generic, List.of(0));
            return classes.size() - 1;
        }

        private int above(int named, int argument) {
            Cls up = classAt(named);
            if (argument >= 0) {
                typeAt(argument);
            }
            int number = classes.size() - 1;
            Cls newest = classes.get(number);
            need(number >= 13, new IllegalStateException());
            need(named != number, new IllegalStateException());
            need(!newest.face || up.face, new IllegalStateException());
            boolean hasClass = false;
            for (int direct : newest.directs) {
                hasClass |= direct != 0 && !classes.get(direct).face;
            }
            need(!hasClass || up.face, new IllegalStateException());
            need(!newest.directs.contains(named), new IllegalStateException());
            need(argument >= -2, new IllegalArgumentException());
            need(argument < 0 || argument > 7, new IllegalArgumentException());
            need(up.generic == (argument != -1), new IllegalArgumentException());
            need(argument != -2 || newest.generic, new IllegalArgumentException());
            // A type of its own stands for the parameter: no told type is alike.
            Tree parameter = new Tree(9, -1, 0, null, List.of());
            Tree self = newest.generic ? named(number, 1, parameter) : named(number, 0, null);
            Tree there = argument == -1 ? named(named, 0, null) : named(named, 1, argument == -2 ? parameter : types.get(argument));
            for (int i = 0; i < number; i++) {
                Tree one = look(self, i);
                Tree other = look(there, i);
                need(!classes.get(i).generic || one == null || other == null || one.equals(other), new IllegalStateException());
            }
            below.clear();
            if (!up.face) {
                newest.directs.set(0, named);
                newest.tolds.set(0, argument);
            } else {
                newest.directs.add(named);
                newest.tolds.add(argument);
            }
            return newest.directs.size();
        }

        private int makeNamed(int named, int how, int argument) {
            Cls cls = classAt(named);
            Tree inner = how == 0 ? null : typeAt(argument);
            need(how >= 0 && how <= 2 && cls.generic == (how != 0), new IllegalArgumentException());
            need(inner == null || inner.kind != 0, new IllegalArgumentException());
            return number(named(named, how, inner));
        }

        private boolean isUnder(int a, int b) {
            for (int direct : classes.get(a).directs) {
                if (direct == b || isUnder(direct, b)) {
                    return true;
                }
            }
            return false;
        }

        private Tree look(Tree tree, int named) {
            switch (tree.kind) {
                case 0: return look(named(5 + tree.named, 0, null), named);
                case 2: return named <= 2 ? named(named, 0, null) : null;
                case 3:
                    for (Tree part : tree.members) {
                        Tree found = look(part, named);
                        if (found != null) {
                            return found;
                        }
                    }
                    return null;
                default: break;
            }
            if (tree.named == named) {
                return tree;
            }
            Cls cls = classes.get(tree.named);
            for (int i = 0; i < cls.directs.size(); i++) {
                int direct = cls.directs.get(i);
                int told = cls.tolds.get(i);
                if (direct == named || isUnder(direct, named)) {
                    Tree next = told == -1 ? named(direct, 0, null)
                        : told == -2 ? named(direct, tree.how, tree.inner) : named(direct, 1, types.get(told));
                    return look(next, named);
                }
            }
            return null;
        }

        private int lookAt(int type, int named) {
            Tree tree = typeAt(type);
            classAt(named);
            Tree found = look(tree, named);
            return found == null ? -1 : number(found);
        }

        private boolean isBelow(Tree a, Tree b) {
            Map<Tree, Boolean> known = below.computeIfAbsent(b, key -> new HashMap<>());
            Boolean answer = known.get(a);
            if (answer == null) {
                answer = a.equals(b) || b.kind == 1 && isBelowNamed(a, b) || b.kind == 2 && isBelowArray(a, b)
                    || b.kind == 3 && b.members.stream().allMatch(part -> isBelow(a, part));
                known.put(a, answer);
            }
            return answer;
        }

        private boolean isBelowArray(Tree a, Tree b) {
            return a.kind == 2 && a.inner.kind != 0 && b.inner.kind != 0 && isBelow(a.inner, b.inner);
        }

        private boolean isBelowNamed(Tree a, Tree b) {
            for (Tree part : a.kind == 0 || a.kind == 2 ? List.of(a) : a.parts()) {
                Tree found = look(part, b.named);
                if (found != null && (found.inner == null || fits(found, b))) {
                    return true;
                }
            }
            return false;
        }

        private boolean fits(Tree one, Tree into) {
            return into.how == 1 ? one.how == 1 && one.inner.equals(into.inner) : isBelow(one.inner, into.inner);
        }

        private List<Integer> commonOf(Tree a, Tree b) {
            List<Integer> common = new ArrayList<>();
            for (int i = 0; i < classes.size(); i++) {
                if (look(a, i) != null && look(b, i) != null) {
                    common.add(i);
                }
            }
            return common;
        }

        private List<Integer> leastOf(List<Integer> common) {
            List<Integer> least = new ArrayList<>();
            for (int one : common) {
                if (common.stream().noneMatch(other -> isUnder(other, one))) {
                    least.add(one);
                }
            }
            return least;
        }

        private int common(int a, int b, int what) {
            List<Integer> common = commonOf(typeAt(a), typeAt(b));
            need(what == 0 || what == 1, new IllegalArgumentException());
            return what == 0 ? common.size() : leastOf(common).size();
        }

        private Tree upper(Tree a, Tree b, int d) {
            if (a.equals(b)) {
                return a;
            }
            if (a.kind == 2 && b.kind == 2 && a.inner.kind != 0 && b.inner.kind != 0) {
                return arrayOf(upper(a.inner, b.inner, d));
            }
            List<Tree> parts = new ArrayList<>();
            for (int named : leastOf(commonOf(a, b))) {
                Tree one = look(a, named);
                Tree other = look(b, named);
                if (!classes.get(named).generic) {
                    parts.add(named(named, 0, null));
                } else if (one.how == 1 && one.equals(other)) {
                    parts.add(one);
                } else {
                    parts.add(named(named, 2, d == 0 ? named(0, 0, null) : upper(one.inner, other.inner, d - 1)));
                }
            }
            return parts.size() == 1 ? parts.get(0) : new Tree(3, -1, 0, null, parts);
        }

        private int lower(Tree a, Tree b) {
            if (isBelow(a, b)) {
                return types.indexOf(a);
            }
            if (isBelow(b, a)) {
                return types.indexOf(b);
            }
            if (a.parts().isEmpty() || b.parts().isEmpty()) {
                return -1;
            }
            List<Tree> all = new ArrayList<>();
            for (Tree part : a.parts()) {
                all.add(part);
            }
            for (Tree part : b.parts()) {
                if (!all.contains(part)) {
                    all.add(part);
                }
            }
            List<Tree> least = new ArrayList<>();
            for (Tree one : all) {
                if (all.stream().noneMatch(other -> !other.equals(one) && isBelow(other, one))) {
                    least.add(one);
                }
            }
            least.sort((one, other) -> Integer.compare(one.named, other.named));
            int solid = 0;
            for (int i = 0; i < least.size(); i++) {
                solid += classes.get(least.get(i).named).face ? 0 : 1;
                if (i > 0 && least.get(i).named == least.get(i - 1).named || solid > 1) {
                    return -1;
                }
            }
            if (least.size() < 2) {
                throw new RuntimeException("an intersection of fewer than two");
            }
            return number(new Tree(3, -1, 0, null, least));
        }

        private int tell(int type, int what) {
            Tree tree = typeAt(type);
            switch (what) {
                case 0: return tree.kind;
                case 1: return tree.kind == 1 ? tree.named : -1;
                case 2: return tree.how;
                case 3: return tree.inner == null ? -1 : types.indexOf(tree.inner);
                case 4: return tree.parts().size();
                case 5: return tree.size();
                default: throw new IllegalArgumentException();
            }
        }

        private int part(int type, int i) {
            List<Tree> parts = typeAt(type).parts();
            need(i >= 0 && i < parts.size(), new IndexOutOfBoundsException());
            return types.indexOf(parts.get(i));
        }

        private int classed(int named, int what) {
            Cls cls = classAt(named);
            switch (what) {
                case 0: return cls.face ? 1 : 0;
                case 1: return cls.generic ? 1 : 0;
                case 2: return cls.directs.size();
                case 3: {
                    int count = 0;
                    for (int i = 0; i < classes.size(); i++) {
                        count += isUnder(named, i) ? 1 : 0;
                    }
                    return count;
                }
                default: throw new IllegalArgumentException();
            }
        }

        private int direct(int named, int i, int what) {
            Cls cls = classAt(named);
            need(i >= 0 && i < cls.directs.size(), new IndexOutOfBoundsException());
            need(what == 0 || what == 1, new IllegalArgumentException());
            return what == 0 ? cls.directs.get(i) : cls.tolds.get(i);
        }

        private int told(int what) {
            switch (what) {
                case 0: return classes.size();
                case 1: return genericCount();
                case 2: return types.size();
                case 3: return depth;
                default: throw new IllegalArgumentException();
            }
        }
    }
}
