import java.util.ArrayList;
import java.util.HashMap;
import java.util.List;
import java.util.Map;

/**
 * Long runs of calls, right and wrong ones, compared with a second keeper that follows the words of the
 * document: it derives every environment from its rounds and compares every set with every other.
 *
 * Rules that are picked blindly soon contradict the empty environment, and then every label is empty and there is no
 * world; so bodies and heads are picked with care, and the test counts how often its questions met something to tell.
 */
public final class AssumptionKeeperAgainstModel {
    private static final int RUNS = 200;
    private static final int CALLS = 512;

    private static long seed = 20261118;
    private static int wrong = 0;

    /** What the questions about all environments met; a comparison of empty answers alone would tell nothing. */
    private static int questions = 0;
    private static int withNothingConsistent = 0;
    private static int withSeveralWorlds = 0;
    private static int withSeveralNogoods = 0;
    private static int labels = 0;
    private static int labelsOfSeveral = 0;

    private static int pick(int bound) {
        seed = seed * 6364136223846793005L + 1442695040888963407L;
        return (int) Math.floorMod(seed >>> 33, (long) bound);
    }

    private static final class Rule {
        final int body;
        final int head;
        boolean isOn = true;

        Rule(int body, int head) {
            this.body = body;
            this.head = head;
        }
    }

    private static final class Model {
        final List<Integer> kinds = new ArrayList<>();
        final List<Integer> places = new ArrayList<>();
        final List<Integer> weights = new ArrayList<>();
        final List<Rule> rules = new ArrayList<>();
        private int[][] known;
        private Boolean[] soundness;
        private final Map<String, List<Integer>> families = new HashMap<>();

        void changed() {
            known = null;
            soundness = null;
            families.clear();
        }

        int all() {
            return 1 << places.size();
        }

        void node(int node) {
            if (node < 0 || node >= kinds.size()) {
                throw new IndexOutOfBoundsException();
            }
        }

        void assumption(int assumption) {
            if (assumption < 0 || assumption >= places.size()) {
                throw new IndexOutOfBoundsException();
            }
        }

        void env(int env) {
            if (env < 0 || env >= all()) {
                throw new IllegalArgumentException();
            }
        }

        void weight(int weight) {
            if (weight < 1 || weight > 100) {
                throw new IllegalArgumentException();
            }
        }

        int[] depths(int env) {
            if (known == null) {
                known = new int[all()][];
            }
            if (known[env] == null) {
                known[env] = deriveDepths(env);
            }
            return known[env];
        }

        private int[] deriveDepths(int env) {
            int[] depths = new int[kinds.size()];
            for (int node = 0; node < depths.length; node++) {
                int kind = kinds.get(node);
                depths[node] = kind >= 0 && (env & 1 << kind) != 0 ? 0 : -1;
            }
            boolean found = true;
            for (int round = 1; found; round++) {
                found = false;
                for (Rule rule : rules) {
                    if (rule.isOn && rule.head >= 0 && depths[rule.head] < 0 && bodyBefore(rule, depths, round)) {
                        depths[rule.head] = round;
                        found = true;
                    }
                }
            }
            return depths;
        }

        boolean bodyBefore(Rule rule, int[] depths, int round) {
            for (int node = 0; node < depths.length; node++) {
                if ((rule.body & 1 << node) != 0 && (depths[node] < 0 || depths[node] >= round)) {
                    return false;
                }
            }
            return true;
        }

        boolean holds(int node, int env) {
            return depths(env)[node] >= 0;
        }

        boolean sound(int env) {
            if (soundness == null) {
                soundness = new Boolean[all()];
            }
            if (soundness[env] == null) {
                soundness[env] = deriveSoundness(env);
            }
            return soundness[env];
        }

        private boolean deriveSoundness(int env) {
            for (Rule rule : rules) {
                if (rule.isOn && rule.head < 0 && bodyBefore(rule, depths(env), Integer.MAX_VALUE)) {
                    return false;
                }
            }
            return true;
        }

        int support(int node, int env) {
            int depth = depths(env)[node];
            if (depth <= 0) {
                return depth == 0 ? -1 : -2;
            }
            for (int i = 0; i < rules.size(); i++) {
                Rule rule = rules.get(i);
                if (rule.isOn && rule.head == node && bodyBefore(rule, depths(env), depth)) {
                    return i;
                }
            }
            throw new AssertionError("a node without support");
        }

        int cost(int env) {
            int sum = 0;
            for (int a = 0; a < places.size(); a++) {
                sum += (env & 1 << a) != 0 ? weights.get(a) : 0;
            }
            return sum;
        }

        int extend(int env) {
            List<Integer> order = new ArrayList<>();
            for (int a = 0; a < places.size(); a++) {
                order.add(a);
            }
            order.sort((a, b) -> weights.get(a).equals(weights.get(b)) ? a - b : weights.get(b) - weights.get(a));
            int made = env;
            for (int a : order) {
                if (sound(made | 1 << a)) {
                    made |= 1 << a;
                }
            }
            return made;
        }

        List<Integer> label(int node) {
            return families.computeIfAbsent("label " + node, name -> findLabel(node));
        }

        List<Integer> nogoods() {
            return families.computeIfAbsent("nogoods", name -> findNogoods());
        }

        List<Integer> worlds() {
            return families.computeIfAbsent("worlds", name -> findWorlds());
        }

        private List<Integer> findLabel(int node) {
            List<Integer> such = new ArrayList<>();
            for (int env = 0; env < all(); env++) {
                if (sound(env) && holds(node, env)) {
                    such.add(env);
                }
            }
            return least(such);
        }

        private List<Integer> findNogoods() {
            List<Integer> such = new ArrayList<>();
            for (int env = 0; env < all(); env++) {
                if (!sound(env)) {
                    such.add(env);
                }
            }
            return least(such);
        }

        private static List<Integer> least(List<Integer> such) {
            List<Integer> least = new ArrayList<>();
            for (int one : such) {
                boolean isLeast = true;
                for (int other : such) {
                    isLeast &= other == one || (other & one) != other;
                }
                if (isLeast) {
                    least.add(one);
                }
            }
            return least;
        }

        List<Integer> sounds() {
            List<Integer> such = new ArrayList<>();
            for (int env = 0; env < all(); env++) {
                if (sound(env)) {
                    such.add(env);
                }
            }
            return such;
        }

        private List<Integer> findWorlds() {
            List<Integer> such = sounds();
            List<Integer> greatest = new ArrayList<>();
            for (int one : such) {
                boolean isGreatest = true;
                for (int other : such) {
                    isGreatest &= other == one || (other & one) != one;
                }
                if (isGreatest) {
                    greatest.add(one);
                }
            }
            return greatest;
        }

        static int at(List<Integer> list, int index) {
            if (index < 0 || index >= list.size()) {
                throw new IndexOutOfBoundsException();
            }
            return list.get(index);
        }

        long digest() {
            List<Integer> numbers = new ArrayList<>();
            numbers.add(kinds.size());
            for (int node = 0; node < kinds.size(); node++) {
                numbers.add(kinds.get(node));
                addAll(numbers, label(node));
            }
            addAll(numbers, weights);
            numbers.add(rules.size());
            for (Rule rule : rules) {
                numbers.addAll(List.of(rule.body, rule.head, rule.isOn ? 1 : 0));
            }
            addAll(numbers, nogoods());
            addAll(numbers, worlds());
            long d = 113;
            for (int x : numbers) {
                d = d * 31 + x;
            }
            return d;
        }

        private static void addAll(List<Integer> numbers, List<Integer> more) {
            numbers.add(more.size());
            numbers.addAll(more);
        }

        Object change(int kind, int x, int y) {
            switch (kind) {
                case 0:
                    if (kinds.size() >= 24) {
                        throw new IllegalStateException();
                    }
                    changed();
                    kinds.add(-1);
                    return kinds.size() - 1;
                case 1:
                    weight(x);
                    if (kinds.size() >= 24 || places.size() >= 9) {
                        throw new IllegalStateException();
                    }
                    changed();
                    kinds.add(places.size());
                    places.add(kinds.size() - 1);
                    weights.add(x);
                    return kinds.size() - 1;
                case 2:
                    assumption(x);
                    weight(y);
                    return weights.set(x, y);
                case 3:
                    if (x < 0 || x >= 1 << kinds.size()) {
                        throw new IllegalArgumentException();
                    }
                    if (y < -1 || y >= kinds.size()) {
                        throw new IndexOutOfBoundsException();
                    }
                    if (rules.size() >= 40) {
                        throw new IllegalStateException();
                    }
                    changed();
                    rules.add(new Rule(x, y));
                    return rules.size() - 1;
                case 4:
                    if (x < 0 || x >= rules.size()) {
                        throw new IndexOutOfBoundsException();
                    }
                    changed();
                    boolean before = rules.get(x).isOn;
                    rules.get(x).isOn = y != 0;
                    return before;
                default:
                    if (rules.isEmpty()) {
                        throw new IllegalStateException();
                    }
                    changed();
                    rules.remove(rules.size() - 1);
                    return rules.size();
            }
        }

        Object askEnvironment(int kind, int x, int y) {
            if (kind >= 10 && kind <= 12) {
                node(x);
                env(y);
            } else if (kind >= 13) {
                env(x);
            }
            switch (kind) {
                case 6: return kinds.size();
                case 7: return places.size();
                case 8: node(x); return kinds.get(x);
                case 9: assumption(x); return places.get(x);
                case 10: return holds(x, y);
                case 11: return depths(y)[x];
                case 12: return support(x, y);
                case 13:
                    int count = 0;
                    for (int depth : depths(x)) {
                        count += depth >= 0 ? 1 : 0;
                    }
                    return count;
                case 14: return sound(x);
                case 15: return cost(x);
                default:
                    if (!sound(x)) {
                        throw new IllegalStateException();
                    }
                    return extend(x);
            }
        }

        Object askLabel(int kind, int x, int y) {
            node(x);
            List<Integer> label = label(x);
            switch (kind) {
                case 17: return label.size();
                case 18: return at(label, y);
                case 19:
                    int best = -1;
                    for (int env : label) {
                        best = best < 0 || cost(env) < cost(best) ? env : best;
                    }
                    return best;
                case 20:
                    int common = all() - 1;
                    for (int env : label) {
                        common &= env;
                    }
                    return common;
                default:
                    int united = 0;
                    for (int env : label) {
                        united |= env;
                    }
                    return united;
            }
        }

        Object askAll(int kind, int x, int y) {
            switch (kind) {
                case 22: return nogoods().size();
                case 23: return at(nogoods(), x);
                case 24: return worlds().size();
                case 25: return at(worlds(), x);
                case 26:
                    node(x);
                    return (int) worlds().stream().filter(env -> holds(x, env)).count();
                case 27:
                    node(x);
                    double all = sounds().size();
                    return all == 0 ? 0.0 : sounds().stream().filter(env -> holds(x, env)).count() / all;
                case 28:
                    node(x);
                    node(y);
                    return sounds().stream().allMatch(env -> !holds(x, env) || holds(y, env));
                case 29:
                    node(x);
                    node(y);
                    return sounds().stream().noneMatch(env -> holds(x, env) && holds(y, env));
                default: return digest();
            }
        }

        Object call(int kind, int x, int y) {
            return kind <= 5 ? change(kind, x, y)
                    : kind <= 16 ? askEnvironment(kind, x, y)
                    : kind <= 21 ? askLabel(kind, x, y) : askAll(kind, x, y);
        }
    }

    private static Object call(AssumptionKeeper keeper, int kind, int x, int y) {
        switch (kind) {
            case 0: return keeper.addStatement();
            case 1: return keeper.addAssumption(x);
            case 2: return keeper.setWeight(x, y);
            case 3: return keeper.addRule(x, y);
            case 4: return keeper.turn(x, y != 0);
            case 5: return keeper.drop();
            case 6: return keeper.nodeCount();
            case 7: return keeper.assumptionCount();
            case 8: return keeper.assumptionOf(x);
            case 9: return keeper.nodeOf(x);
            case 10: return keeper.holds(x, y);
            case 11: return keeper.depth(x, y);
            case 12: return keeper.support(x, y);
            case 13: return keeper.heldCount(x);
            case 14: return keeper.isConsistent(x);
            case 15: return keeper.cost(x);
            case 16: return keeper.extend(x);
            case 17: return keeper.labelSize(x);
            case 18: return keeper.label(x, y);
            case 19: return keeper.cheapest(x);
            case 20: return keeper.needed(x);
            case 21: return keeper.useful(x);
            case 22: return keeper.nogoodCount();
            case 23: return keeper.nogood(x);
            case 24: return keeper.worldCount();
            case 25: return keeper.world(x);
            case 26: return keeper.worldsWith(x);
            case 27: return keeper.belief(x);
            case 28: return keeper.implies(x, y);
            case 29: return keeper.excludes(x, y);
            default: return keeper.digest();
        }
    }

    private static int odd(int usual) {
        int[] odds = {-1, -2, 0, 9, 24, 31, 32, 40, 101, 512, Integer.MIN_VALUE, Integer.MAX_VALUE, usual + 1, -usual};
        return pick(40) == 0 ? odds[pick(odds.length)] : usual;
    }

    /** Half of a body is picked from the assumptions, so that much of it can be made to hold. */
    private static int someBody(Model model, int least) {
        int body = 0;
        for (int i = least + pick(2); i > 0 && !model.kinds.isEmpty(); i--) {
            boolean fromAssumptions = !model.places.isEmpty() && pick(2) == 0;
            body |= 1 << (fromAssumptions ? model.places.get(pick(model.places.size())) : pick(model.kinds.size()));
        }
        return body;
    }

    /** A contradiction needs a greater body than another rule, so that small environments stay consistent. */
    private static int someRuleBody(Model model, int head) {
        if (pick(head == -1 ? 80 : 40) == 0) {
            return 0;
        }
        return someBody(model, head == -1 ? 3 : 1);
    }

    /** Statements are derived more often than assumptions, which would follow from nothing otherwise. */
    private static int someHead(Model model, int tension) {
        int nodes = Math.max(1, model.kinds.size());
        if (pick(tension) == 0) {
            return -1;
        }
        int head = pick(nodes);
        return head < model.kinds.size() && model.kinds.get(head) >= 0 && pick(4) > 0 ? pick(nodes) : head;
    }

    /** A number in a list of this size, now and then the one just behind its last. */
    private static int someIndex(int size) {
        return odd(pick(8) == 0 ? size : pick(Math.max(1, size)));
    }

    private static int someWeight() {
        return odd(1 + pick(pick(2) == 0 ? 3 : 100));
    }

    private static int firstArgument(int kind, Model model, int second) {
        int nodes = Math.max(1, model.kinds.size());
        switch (kind) {
            case 1: return someWeight();
            case 2: case 9: return odd(pick(Math.max(1, model.places.size())));
            case 3: return odd(someRuleBody(model, second));
            case 4: return odd(pick(Math.max(1, model.rules.size())));
            case 13: case 14: case 15: case 16: return odd(pick(model.all()));
            case 23: return someIndex(model.nogoods().size());
            case 25: return someIndex(model.worlds().size());
            default: return odd(pick(nodes));
        }
    }

    private static int secondArgument(int kind, Model model, int tension) {
        int nodes = Math.max(1, model.kinds.size());
        switch (kind) {
            case 2: return someWeight();
            case 3: return odd(someHead(model, tension));
            case 4: return pick(3);
            case 10: case 11: case 12: return odd(pick(model.all()));
            default: return odd(pick(nodes));
        }
    }

    private static int indexInLabel(Model model, int node) {
        return someIndex(node >= 0 && node < model.kinds.size() ? model.label(node).size() : 0);
    }

    private static int nextKind(int made) {
        if (made < 90 && pick(4) > 0) {
            int[] building = {0, 0, 1, 1, 3, 3, 3, 3};
            return building[pick(building.length)];
        }
        return pick(31);
    }

    private static void count(Model model, int kind, Object answer) {
        if (kind < 17) {
            return;
        }
        questions++;
        withNothingConsistent += model.worlds().isEmpty() ? 1 : 0;
        withSeveralWorlds += model.worlds().size() > 1 ? 1 : 0;
        withSeveralNogoods += model.nogoods().size() > 1 ? 1 : 0;
        if (kind == 17) {
            labels++;
            labelsOfSeveral += answer instanceof Integer size && size > 1 ? 1 : 0;
        }
    }

    private static void requireShare(String what, int part, int whole, int leastPercent) {
        if (part * 100L < (long) whole * leastPercent) {
            wrong++;
            System.out.println("the runs tell too little: " + part + " of " + whole + " " + what);
        }
    }

    private static void requireTellingRuns() {
        requireShare("questions met nothing consistent", withNothingConsistent, questions, 2);
        requireShare("questions met something consistent", questions - withNothingConsistent, questions, 70);
        requireShare("questions met several worlds", withSeveralWorlds, questions, 30);
        requireShare("questions met several nogoods", withSeveralNogoods, questions, 30);
        requireShare("labels had several environments", labelsOfSeveral, labels, 15);
    }

    private static Object answered(Model model, AssumptionKeeper keeper, int kind, int x, int y) {
        try {
            return model != null ? model.call(kind, x, y) : call(keeper, kind, x, y);
        } catch (RuntimeException e) {
            return "throws." + e.getClass().getSimpleName();
        }
    }

    private static void run(int number) {
        Model model = new Model();
        AssumptionKeeper keeper = new AssumptionKeeper();
        int tension = 4 + pick(9);
        for (int made = 0; made < CALLS; made++) {
            int kind = nextKind(made);
            int second = secondArgument(kind, model, tension);
            int x = firstArgument(kind, model, second);
            int y = kind == 18 ? indexInLabel(model, x) : second;
            Object want = answered(model, null, kind, x, y);
            Object got = answered(null, keeper, kind, x, y);
            count(model, kind, want);
            if (!want.equals(got)) {
                wrong++;
                System.out.println("run " + number + ", call " + made + ": kind " + kind + " (" + x + ", " + y
                        + ") answered " + got + ", due is " + want);
                return;
            }
        }
    }

    public static void main(String[] args) {
        for (int number = 0; number < RUNS; number++) {
            run(number);
        }
        requireTellingRuns();
        if (wrong > 0) {
            System.exit(1);
        }
    }
}
