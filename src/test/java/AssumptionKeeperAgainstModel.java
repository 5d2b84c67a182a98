import java.util.ArrayList;
import java.util.List;

/**
 * Long runs of calls, right and wrong ones, compared with a second keeper that follows the words of the
 * document: it derives every environment from its rounds and compares every set with every other.
 */
public final class AssumptionKeeperAgainstModel {
    private static final int RUNS = 200;
    private static final int CALLS = 512;

    private static long seed = 20261118;
    private static int wrong = 0;

    private static int pick(int bound) {
        seed = seed * 6364136223846793005L + 1442695040888963407L;
        return (int) Math.floorMod(seed >>> 33, (long) bound);
    }

    private static final class Rule {
        final int body;
        final int head;
        boolean isOn = true;

        Rule(int body, int head) {
            this.body = body;
            this.head = head;
        }
    }

    private static final class Model {
        final List<Integer> kinds = new ArrayList<>();
        final List<Integer> places = new ArrayList<>();
        final List<Integer> weights = new ArrayList<>();
        final List<Rule> rules = new ArrayList<>();
        private int[][] known;

        void changed() {
            known = null;
        }

        int all() {
            return 1 << places.size();
        }

        void node(int node) {
            if (node < 0 || node >= kinds.size()) {
                throw new IndexOutOfBoundsException();
            }
        }

        void assumption(int assumption) {
            if (assumption < 0 || assumption >= places.size()) {
                throw new IndexOutOfBoundsException();
            }
        }

        void env(int env) {
            if (env < 0 || env >= all()) {
                throw new IllegalArgumentException();
            }
        }

        void weight(int weight) {
            if (weight < 1 || weight > 100) {
                throw new IllegalArgumentException();
            }
        }

        int[] depths(int env) {
            if (known == null) {
                known = new int[all()][];
            }
            if (known[env] == null) {
                known[env] = deriveDepths(env);
            }
            return known[env];
        }

        private int[] deriveDepths(int env) {
            int[] depths = new int[kinds.size()];
            for (int node = 0; node < depths.length; node++) {
                int kind = kinds.get(node);
                depths[node] = kind >= 0 && (env & 1 << kind) != 0 ? 0 : -1;
            }
            boolean found = true;
            for (int round = 1; found; round++) {
                found = false;
                for (Rule rule : rules) {
                    if (rule.isOn && rule.head >= 0 && depths[rule.head] < 0 && bodyBefore(rule, depths, round)) {
                        depths[rule.head] = round;
                        found = true;
                    }
                }
            }
            return depths;
        }

        boolean bodyBefore(Rule rule, int[] depths, int round) {
            for (int node = 0; node < depths.length; node++) {
                if ((rule.body & 1 << node) != 0 && (depths[node] < 0 || depths[node] >= round)) {
                    return false;
                }
            }
            return true;
        }

        boolean holds(int node, int env) {
            return depths(env)[node] >= 0;
        }

        boolean sound(int env) {
            for (Rule rule : rules) {
                if (rule.isOn && rule.head < 0 && bodyBefore(rule, depths(env), Integer.MAX_VALUE)) {
                    return false;
                }
            }
            return true;
        }

        int support(int node, int env) {
            int depth = depths(env)[node];
            if (depth <= 0) {
                return depth == 0 ? -1 : -2;
            }
            for (int i = 0; i < rules.size(); i++) {
                Rule rule = rules.get(i);
                if (rule.isOn && rule.head == node && bodyBefore(rule, depths(env), depth)) {
                    return i;
                }
            }
            throw new AssertionError("a node without support");
        }

        int cost(int env) {
            int sum = 0;
            for (int a = 0; a < places.size(); a++) {
                sum += (env & 1 << a) != 0 ? weights.get(a) : 0;
            }
            return sum;
        }

        int extend(int env) {
            List<Integer> order = new ArrayList<>();
            for (int a = 0; a < places.size(); a++) {
                order.add(a);
            }
            order.sort((a, b) -> weights.get(a).equals(weights.get(b)) ? a - b : weights.get(b) - weights.get(a));
            int made = env;
            for (int a : order) {
                if (sound(made | 1 << a)) {
                    made |= 1 << a;
                }
            }
            return made;
        }

        List<Integer> label(int node) {
            List<Integer> such = new ArrayList<>();
            for (int env = 0; env < all(); env++) {
                if (sound(env) && holds(node, env)) {
                    such.add(env);
                }
            }
            return least(such);
        }

        List<Integer> nogoods() {
            List<Integer> such = new ArrayList<>();
            for (int env = 0; env < all(); env++) {
                if (!sound(env)) {
                    such.add(env);
                }
            }
            return least(such);
        }

        private static List<Integer> least(List<Integer> such) {
            List<Integer> least = new ArrayList<>();
            for (int one : such) {
                boolean isLeast = true;
                for (int other : such) {
                    isLeast &= other == one || (other & one) != other;
                }
                if (isLeast) {
                    least.add(one);
                }
            }
            return least;
        }

        List<Integer> sounds() {
            List<Integer> such = new ArrayList<>();
            for (int env = 0; env < all(); env++) {
                if (sound(env)) {
                    such.add(env);
                }
            }
            return such;
        }

        List<Integer> worlds() {
            List<Integer> such = sounds();
            List<Integer> greatest = new ArrayList<>();
            for (int one : such) {
                boolean isGreatest = true;
                for (int other : such) {
                    isGreatest &= other == one || (other & one) != one;
                }
                if (isGreatest) {
                    greatest.add(one);
                }
            }
            return greatest;
        }

        static int at(List<Integer> list, int index) {
            if (index < 0 || index >= list.size()) {
                throw new IndexOutOfBoundsException();
            }
            return list.get(index);
        }

        long digest() {
            List<Integer> numbers = new ArrayList<>();
            numbers.add(kinds.size());
            for (int node = 0; node < kinds.size(); node++) {
                numbers.add(kinds.get(node));
                addAll(numbers, label(node));
            }
            addAll(numbers, weights);
            numbers.add(rules.size());
            for (Rule rule : rules) {
                numbers.addAll(List.of(rule.body, rule.head, rule.isOn ? 1 : 0));
            }
            addAll(numbers, nogoods());
            addAll(numbers, worlds());
            long d = 113;
            for (int x : numbers) {
                d = d * 31 + x;
            }
            return d;
        }

        private static void addAll(List<Integer> numbers, List<Integer> more) {
            numbers.add(more.size());
            numbers.addAll(more);
        }

        Object change(int kind, int x, int y) {
            switch (kind) {
                case 0:
                    if (kinds.size() >= 24) {
                        throw new IllegalStateException();
                    }
                    changed();
                    kinds.add(-1);
                    return kinds.size() - 1;
                case 1:
                    weight(x);
                    if (kinds.size() >= 24 || places.size() >= 9) {
                        throw new IllegalStateException();
                    }
                    changed();
                    kinds.add(places.size());
                    places.add(kinds.size() - 1);
                    weights.add(x);
                    return kinds.size() - 1;
                case 2:
                    assumption(x);
                    weight(y);
                    return weights.set(x, y);
                case 3:
                    if (x < 0 || x >= 1 << kinds.size()) {
                        throw new IllegalArgumentException();
                    }
                    if (y < -1 || y >= kinds.size()) {
                        throw new IndexOutOfBoundsException();
                    }
                    if (rules.size() >= 40) {
                        throw new IllegalStateException();
                    }
                    changed();
                    rules.add(new Rule(x, y));
                    return rules.size() - 1;
                case 4:
                    if (x < 0 || x >= rules.size()) {
                        throw new IndexOutOfBoundsException();
                    }
                    changed();
                    boolean before = rules.get(x).isOn;
                    rules.get(x).isOn = y != 0;
                    return before;
                default:
                    if (rules.isEmpty()) {
                        throw new IllegalStateException();
                    }
                    changed();
                    rules.remove(rules.size() - 1);
                    return rules.size();
            }
        }

        Object askEnvironment(int kind, int x, int y) {
            if (kind >= 10 && kind <= 12) {
                node(x);
                env(y);
            } else if (kind >= 13) {
                env(x);
            }
            switch (kind) {
                case 6: return kinds.size();
                case 7: return places.size();
                case 8: node(x); return kinds.get(x);
                case 9: assumption(x); return places.get(x);
                case 10: return holds(x, y);
                case 11: return depths(y)[x];
                case 12: return support(x, y);
                case 13:
                    int count = 0;
                    for (int depth : depths(x)) {
                        count += depth >= 0 ? 1 : 0;
                    }
                    return count;
                case 14: return sound(x);
                case 15: return cost(x);
                default:
                    if (!sound(x)) {
                        throw new IllegalStateException();
                    }
                    return extend(x);
            }
        }

        Object askLabel(int kind, int x, int y) {
            node(x);
            List<Integer> label = label(x);
            switch (kind) {
                case 17: return label.size();
                case 18: return at(label, y);
                case 19:
                    int best = -1;
                    for (int env : label) {
                        best = best < 0 || cost(env) < cost(best) ? env : best;
                    }
                    return best;
                case 20:
                    int common = all() - 1;
                    for (int env : label) {
                        common &= env;
                    }
                    return common;
                default:
                    int united = 0;
                    for (int env : label) {
                        united |= env;
                    }
                    return united;
            }
        }

        Object askAll(int kind, int x, int y) {
            switch (kind) {
                case 22: return nogoods().size();
                case 23: return at(nogoods(), x);
                case 24: return worlds().size();
                case 25: return at(worlds(), x);
                case 26:
                    node(x);
                    return (int) worlds().stream().filter(env -> holds(x, env)).count();
                case 27:
                    node(x);
                    double all = sounds().size();
                    return all == 0 ? 0.0 : sounds().stream().filter(env -> holds(x, env)).count() / all;
                case 28:
                    node(x);
                    node(y);
                    return sounds().stream().allMatch(env -> !holds(x, env) || holds(y, env));
                case 29:
                    node(x);
                    node(y);
                    return sounds().stream().noneMatch(env -> holds(x, env) && holds(y, env));
                default: return digest();
            }
        }

        Object call(int kind, int x, int y) {
            return kind <= 5 ? change(kind, x, y)
                    : kind <= 16 ? askEnvironment(kind, x, y)
                    : kind <= 21 ? askLabel(kind, x, y) : askAll(kind, x, y);
        }
    }

    private static Object call(AssumptionKeeper keeper, int kind, int x, int y) {
        switch (kind) {
            case 0: return keeper.addStatement();
            case 1: return keeper.addAssumption(x);
            case 2: return keeper.setWeight(x, y);
            case 3: return keeper.addRule(x, y);
            case 4: return keeper.turn(x, y != 0);
            case 5: return keeper.drop();
            case 6: return keeper.nodeCount();
            case 7: return keeper.assumptionCount();
            case 8: return keeper.assumptionOf(x);
            case 9: return keeper.nodeOf(x);
            case 10: return keeper.holds(x, y);
            case 11: return keeper.depth(x, y);
            case 12: return keeper.support(x, y);
            case 13: return keeper.heldCount(x);
            case 14: return keeper.isConsistent(x);
            case 15: return keeper.cost(x);
            case 16: return keeper.extend(x);
            case 17: return keeper.labelSize(x);
            case 18: return keeper.label(x, y);
            case 19: return keeper.cheapest(x);
            case 20: return keeper.needed(x);
            case 21: return keeper.useful(x);
            case 22: return keeper.nogoodCount();
            case 23: return keeper.nogood(x);
            case 24: return keeper.worldCount();
            case 25: return keeper.world(x);
            case 26: return keeper.worldsWith(x);
            case 27: return keeper.belief(x);
            case 28: return keeper.implies(x, y);
            case 29: return keeper.excludes(x, y);
            default: return keeper.digest();
        }
    }

    private static int odd(int usual) {
        int[] odds = {-1, -2, 9, 24, 31, 32, 40, 512, Integer.MIN_VALUE, Integer.MAX_VALUE, usual + 1, -usual};
        return pick(40) == 0 ? odds[pick(odds.length)] : usual;
    }

    private static int someBody(int nodes) {
        int body = 0;
        for (int i = pick(4); i > 0 && nodes > 0; i--) {
            body |= 1 << pick(nodes);
        }
        return body;
    }

    private static int firstArgument(int kind, Model model, int soundness) {
        int nodes = Math.max(1, model.kinds.size());
        switch (kind) {
            case 1: return odd(1 + pick(pick(2) == 0 ? 3 : 100));
            case 2: case 9: return odd(pick(Math.max(1, model.places.size())));
            case 3: return odd(someBody(nodes));
            case 4: return odd(pick(Math.max(1, model.rules.size())));
            case 13: case 14: case 15: case 16: return odd(pick(model.all()));
            case 23: case 25: return odd(pick(1 + soundness));
            default: return odd(pick(nodes));
        }
    }

    private static int secondArgument(int kind, Model model, int soundness) {
        int nodes = Math.max(1, model.kinds.size());
        switch (kind) {
            case 2: return odd(1 + pick(pick(2) == 0 ? 3 : 100));
            case 3: return pick(1 + soundness) == 0 ? -1 : odd(pick(nodes));
            case 4: return pick(3);
            case 10: case 11: case 12: return odd(pick(model.all()));
            case 18: return odd(pick(4));
            default: return odd(pick(nodes));
        }
    }

    private static int nextKind(int made) {
        if (made < 90 && pick(3) > 0) {
            int[] building = {0, 0, 0, 1, 1, 3, 3, 3, 3, 4};
            return building[pick(building.length)];
        }
        return pick(31);
    }

    private static Object answered(Model model, AssumptionKeeper keeper, int kind, int x, int y) {
        try {
            return model != null ? model.call(kind, x, y) : call(keeper, kind, x, y);
        } catch (RuntimeException e) {
            return "throws." + e.getClass().getSimpleName();
        }
    }

    private static void run(int number) {
        Model model = new Model();
        AssumptionKeeper keeper = new AssumptionKeeper();
        int soundness = 1 + pick(12);
        for (int made = 0; made < CALLS; made++) {
            int kind = nextKind(made);
            int x = firstArgument(kind, model, soundness);
            int y = secondArgument(kind, model, soundness);
            Object want = answered(model, null, kind, x, y);
            Object got = answered(null, keeper, kind, x, y);
            if (!want.equals(got)) {
                wrong++;
                System.out.println("run " + number + ", call " + made + ": kind " + kind + " (" + x + ", " + y
                        + ") answered " + got + ", due is " + want);
                return;
            }
        }
    }

    public static void main(String[] args) {
        for (int number = 0; number < RUNS; number++) {
            run(number);
        }
        if (wrong > 0) {
            System.exit(1);
        }
    }
}
