/**
 * A keeper of what follows from which assumptions.
 *
 * Sets of nodes and environments are ints, bit k standing for member k. What a single environment
 * asks is derived anew at each call; what needs all environments is read from a survey, which is
 * made again only when nodes or rules have changed since.
 */
public final class AssumptionKeeper {
    private static final int MOST_NODES = 24;
    private static final int MOST_ASSUMPTIONS = 9;
    private static final int MOST_RULES = 40;
    private static final int MOST_ENVIRONMENTS = 1 << MOST_ASSUMPTIONS;
    private static final int LEAST_WEIGHT = 1;
    private static final int GREATEST_WEIGHT = 100;
    private static final int CONTRADICTION = -1;
    private static final int NO_ASSUMPTION = -1;
    private static final int NO_DEPTH = -1;
    private static final int NO_ENVIRONMENT = -1;
    private static final int SUPPORTED_BY_ITSELF = -1;
    private static final int NOT_SUPPORTED = -2;
    private static final long DIGEST_START = 113L;
    private static final long DIGEST_FACTOR = 31L;

    private final int[] assumptionNumbers;
    private final int[] assumptionNodes;
    private final int[] weights;
    private final RuleBook rules;
    private final Survey survey;
    private int nodes;
    private int assumptions;
    private boolean isSurveyed;

    public AssumptionKeeper() {
        assumptionNumbers = new int[MOST_NODES];
        assumptionNodes = new int[MOST_ASSUMPTIONS];
        weights = new int[MOST_ASSUMPTIONS];
        rules = new RuleBook();
        survey = new Survey();
        nodes = 0;
        assumptions = 0;
        isSurveyed = false;
    }

    // ---- nodes and rules

    public int addStatement() throws IllegalStateException {
        if (nodes >= MOST_NODES) {
            throw new IllegalStateException("there are 24 nodes");
        }
        return appendNode(NO_ASSUMPTION);
    }

    public int addAssumption(int weight) throws IllegalArgumentException, IllegalStateException {
        requireWeight(weight);
        if (nodes >= MOST_NODES || assumptions >= MOST_ASSUMPTIONS) {
            throw new IllegalStateException("there are 24 nodes or 9 assumptions");
        }
        int number = assumptions;
        assumptionNodes[number] = nodes;
        weights[number] = weight;
        assumptions = number + 1;
        return appendNode(number);
    }

    public int setWeight(int assumption, int weight)
            throws IndexOutOfBoundsException, IllegalArgumentException {
        requireAssumption(assumption);
        requireWeight(weight);
        int before = weights[assumption];
        weights[assumption] = weight;
        return before;
    }

    public int addRule(int body, int head)
            throws IllegalArgumentException, IndexOutOfBoundsException, IllegalStateException {
        if (!isSetOf(nodes, body)) {
            throw new IllegalArgumentException("the body contains something that is no node");
        }
        if (head != CONTRADICTION) {
            requireNode(head);
        }
        if (rules.isFull()) {
            throw new IllegalStateException("there are 40 rules");
        }
        isSurveyed = false;
        return rules.append(body, head);
    }

    public boolean turn(int rule, boolean isOn) throws IndexOutOfBoundsException {
        if (rule < 0 || rule >= rules.size()) {
            throw new IndexOutOfBoundsException("there is no such rule");
        }
        isSurveyed = false;
        return rules.switchTo(rule, isOn);
    }

    public int drop() throws IllegalStateException {
        if (rules.size() <= 0) {
            throw new IllegalStateException("there is no rule");
        }
        isSurveyed = false;
        return rules.removeLast();
    }

    public int nodeCount() {
        return nodes;
    }

    public int assumptionCount() {
        return assumptions;
    }

    public int assumptionOf(int node) throws IndexOutOfBoundsException {
        requireNode(node);
        return assumptionNumbers[node];
    }

    public int nodeOf(int assumption) throws IndexOutOfBoundsException {
        requireAssumption(assumption);
        return assumptionNodes[assumption];
    }

    // ---- environments

    public boolean holds(int node, int env)
            throws IndexOutOfBoundsException, IllegalArgumentException {
        requireNode(node);
        requireEnvironment(env);
        return contains(rules.closure(nodesOf(env)), node);
    }

    public int depth(int node, int env)
            throws IndexOutOfBoundsException, IllegalArgumentException {
        requireNode(node);
        requireEnvironment(env);
        int reached = nodesOf(env);
        // Each round but the last has a new node, so no depth is greater than the number of nodes.
        for (int round = 0; round <= MOST_NODES; round++) {
            if (contains(reached, node)) {
                return round;
            }
            reached = rules.afterRound(reached);
        }
        return NO_DEPTH;
    }

    public int support(int node, int env)
            throws IndexOutOfBoundsException, IllegalArgumentException {
        requireNode(node);
        requireEnvironment(env);
        int reached = nodesOf(env);
        if (contains(reached, node)) {
            return SUPPORTED_BY_ITSELF;
        }
        for (int round = 1; round <= MOST_NODES; round++) {
            int next = rules.afterRound(reached);
            if (contains(next, node)) {
                return rules.firstDeriving(node, reached);
            }
            reached = next;
        }
        return NOT_SUPPORTED;
    }

    public int heldCount(int env) throws IllegalArgumentException {
        requireEnvironment(env);
        return Integer.bitCount(rules.closure(nodesOf(env)));
    }

    public boolean isConsistent(int env) throws IllegalArgumentException {
        requireEnvironment(env);
        return isFreeOfContradiction(env);
    }

    public int cost(int env) throws IllegalArgumentException {
        requireEnvironment(env);
        return weightOf(env);
    }

    public int extend(int env) throws IllegalArgumentException, IllegalStateException {
        requireEnvironment(env);
        if (!isFreeOfContradiction(env)) {
            throw new IllegalStateException("the environment is inconsistent");
        }
        int made = env;
        int taken = env;
        for (int step = 0; step < assumptions; step++) {
            int next = heaviestOutside(taken);
            if (next == NO_ASSUMPTION) {
                break;
            }
            taken |= 1 << next;
            if (isFreeOfContradiction(made | 1 << next)) {
                made |= 1 << next;
            }
        }
        return made;
    }

    // ---- labels, nogoods and worlds

    public int labelSize(int node) throws IndexOutOfBoundsException {
        requireNode(node);
        return surveyNow().sizeOfLabel(node);
    }

    public int label(int node, int index) throws IndexOutOfBoundsException {
        requireNode(node);
        return requireFound(surveyNow().memberOfLabel(node, index));
    }

    public int cheapest(int node) throws IndexOutOfBoundsException {
        requireNode(node);
        Survey now = surveyNow();
        int best = NO_ENVIRONMENT;
        int leastCost = 0;
        for (int env = 0; env < now.environmentCount(); env++) {
            if (now.isInLabel(node, env)) {
                int itsCost = weightOf(env);
                if (best == NO_ENVIRONMENT || itsCost < leastCost) {
                    best = env;
                    leastCost = itsCost;
                }
            }
        }
        return best;
    }

    public int needed(int node) throws IndexOutOfBoundsException {
        requireNode(node);
        Survey now = surveyNow();
        int common = now.environmentCount() - 1;
        for (int env = 0; env < now.environmentCount(); env++) {
            if (now.isInLabel(node, env)) {
                common &= env;
            }
        }
        return common;
    }

    public int useful(int node) throws IndexOutOfBoundsException {
        requireNode(node);
        Survey now = surveyNow();
        int united = 0;
        for (int env = 0; env < now.environmentCount(); env++) {
            if (now.isInLabel(node, env)) {
                united |= env;
            }
        }
        return united;
    }

    public int nogoodCount() {
        return surveyNow().countNogoods();
    }

    public int nogood(int index) throws IndexOutOfBoundsException {
        return requireFound(surveyNow().nogoodAt(index));
    }

    public int worldCount() {
        return surveyNow().countWorlds();
    }

    public int world(int index) throws IndexOutOfBoundsException {
        return requireFound(surveyNow().worldAt(index));
    }

    public int worldsWith(int node) throws IndexOutOfBoundsException {
        requireNode(node);
        Survey now = surveyNow();
        int count = 0;
        for (int env = 0; env < now.environmentCount(); env++) {
            if (now.isWorld(env) && now.isHeld(node, env)) {
                count++;
            }
        }
        return count;
    }

    public double belief(int node) throws IndexOutOfBoundsException {
        requireNode(node);
        Survey now = surveyNow();
        int all = 0;
        int holding = 0;
        for (int env = 0; env < now.environmentCount(); env++) {
            if (now.isSound(env)) {
                all++;
                if (now.isHeld(node, env)) {
                    holding++;
                }
            }
        }
        if (all == 0) {
            return 0.0;
        }
        return (double) holding / (double) all;
    }

    public boolean implies(int a, int b) throws IndexOutOfBoundsException {
        requireNode(a);
        requireNode(b);
        Survey now = surveyNow();
        for (int env = 0; env < now.environmentCount(); env++) {
            if (now.isSound(env) && now.isHeld(a, env) && !now.isHeld(b, env)) {
                return false;
            }
        }
        return true;
    }

    public boolean excludes(int a, int b) throws IndexOutOfBoundsException {
        requireNode(a);
        requireNode(b);
        Survey now = surveyNow();
        for (int env = 0; env < now.environmentCount(); env++) {
            if (now.isSound(env) && now.isHeld(a, env) && now.isHeld(b, env)) {
                return false;
            }
        }
        return true;
    }

    public long digest() {
        Survey now = surveyNow();
        long sum = mix(DIGEST_START, nodes);
        for (int node = 0; node < nodes; node++) {
            sum = mix(sum, assumptionNumbers[node]);
            sum = now.mixLabel(sum, node);
        }
        sum = mix(sum, assumptions);
        for (int assumption = 0; assumption < assumptions; assumption++) {
            sum = mix(sum, weights[assumption]);
        }
        sum = rules.mixRules(sum);
        sum = now.mixNogoods(sum);
        return now.mixWorlds(sum);
    }

    // ---- what the face stands on

    private int appendNode(int assumptionNumber) {
        int node = nodes;
        assumptionNumbers[node] = assumptionNumber;
        nodes = node + 1;
        isSurveyed = false;
        return node;
    }

    private void requireNode(int node) {
        if (node < 0 || node >= nodes) {
            throw new IndexOutOfBoundsException("there is no such node");
        }
    }

    private void requireAssumption(int assumption) {
        if (assumption < 0 || assumption >= assumptions) {
            throw new IndexOutOfBoundsException("there is no such assumption");
        }
    }

    private void requireEnvironment(int env) {
        if (!isSetOf(assumptions, env)) {
            throw new IllegalArgumentException("this is no environment of the assumptions");
        }
    }

    private static void requireWeight(int weight) {
        if (weight < LEAST_WEIGHT || weight > GREATEST_WEIGHT) {
            throw new IllegalArgumentException("the weight is not 1 to 100");
        }
    }

    private static int requireFound(int env) {
        if (env == NO_ENVIRONMENT) {
            throw new IndexOutOfBoundsException("there is no environment of this number");
        }
        return env;
    }

    /** Whether the number tells a set of members 0 to count - 1; count is below 31. */
    private static boolean isSetOf(int count, int set) {
        return set >= 0 && set < 1 << count;
    }

    private static boolean contains(int set, int member) {
        return (set >> member & 1) != 0;
    }

    private static long mix(long sum, long number) {
        return sum * DIGEST_FACTOR + number;
    }

    private int nodesOf(int env) {
        int set = 0;
        for (int assumption = 0; assumption < assumptions; assumption++) {
            if (contains(env, assumption)) {
                set |= 1 << assumptionNodes[assumption];
            }
        }
        return set;
    }

    private boolean isFreeOfContradiction(int env) {
        return !rules.contradict(rules.closure(nodesOf(env)));
    }

    private int weightOf(int env) {
        int sum = 0;
        for (int assumption = 0; assumption < assumptions; assumption++) {
            if (contains(env, assumption)) {
                sum += weights[assumption];
            }
        }
        return sum;
    }

    private int heaviestOutside(int taken) {
        int best = NO_ASSUMPTION;
        int greatest = 0;
        for (int assumption = 0; assumption < assumptions; assumption++) {
            if (!contains(taken, assumption) && weights[assumption] > greatest) {
                best = assumption;
                greatest = weights[assumption];
            }
        }
        return best;
    }

    private Survey surveyNow() {
        if (!isSurveyed) {
            survey.make(rules, assumptionNodes, assumptions);
            isSurveyed = true;
        }
        return survey;
    }

    /** The rules in the order of their numbers, and what they derive from a set of nodes. */
    private static final class RuleBook {
        private final int[] bodies;
        private final int[] heads;
        private final boolean[] areOn;
        private int count;

        RuleBook() {
            bodies = new int[MOST_RULES];
            heads = new int[MOST_RULES];
            areOn = new boolean[MOST_RULES];
            count = 0;
        }

        int size() {
            return count;
        }

        boolean isFull() {
            return count >= MOST_RULES;
        }

        int append(int body, int head) {
            int rule = count;
            bodies[rule] = body;
            heads[rule] = head;
            areOn[rule] = true;
            count = rule + 1;
            return rule;
        }

        int removeLast() {
            count--;
            return count;
        }

        boolean switchTo(int rule, boolean isOn) {
            boolean before = areOn[rule];
            areOn[rule] = isOn;
            return before;
        }

        private boolean fires(int rule, int reached) {
            return areOn[rule] && (bodies[rule] & ~reached) == 0;
        }

        /** The nodes given, and those that one further round adds to them. */
        int afterRound(int reached) {
            int next = reached;
            for (int rule = 0; rule < count; rule++) {
                if (heads[rule] != CONTRADICTION && fires(rule, reached)) {
                    next |= 1 << heads[rule];
                }
            }
            return next;
        }

        int closure(int start) {
            int reached = start;
            for (int round = 1; round <= MOST_NODES; round++) {
                int next = afterRound(reached);
                if (next == reached) {
                    break;
                }
                reached = next;
            }
            return reached;
        }

        boolean contradict(int reached) {
            for (int rule = 0; rule < count; rule++) {
                if (heads[rule] == CONTRADICTION && fires(rule, reached)) {
                    return true;
                }
            }
            return false;
        }

        int firstDeriving(int node, int earlier) {
            for (int rule = 0; rule < count; rule++) {
                if (heads[rule] == node && fires(rule, earlier)) {
                    return rule;
                }
            }
            return NOT_SUPPORTED;
        }

        long mixRules(long start) {
            long sum = mix(start, count);
            for (int rule = 0; rule < count; rule++) {
                sum = mix(sum, bodies[rule]);
                sum = mix(sum, heads[rule]);
                sum = mix(sum, areOn[rule] ? 1 : 0);
            }
            return sum;
        }
    }

    /**
     * What all environments are, in ascending order of their numbers.
     *
     * A greater environment holds whatever a smaller one holds, and contradicts itself if a smaller
     * one does; so being least or greatest is told by the neighbours that differ in one assumption.
     */
    private static final class Survey {
        private final int[] held;
        private final int[] labelled;
        private final boolean[] areSound;
        private final boolean[] areNogoods;
        private final boolean[] areWorlds;
        private int assumptions;
        private int environments;

        Survey() {
            held = new int[MOST_ENVIRONMENTS];
            labelled = new int[MOST_ENVIRONMENTS];
            areSound = new boolean[MOST_ENVIRONMENTS];
            areNogoods = new boolean[MOST_ENVIRONMENTS];
            areWorlds = new boolean[MOST_ENVIRONMENTS];
            assumptions = 0;
            environments = 1;
        }

        void make(RuleBook rules, int[] assumptionNodes, int assumptionsNow) {
            assumptions = assumptionsNow;
            environments = 1 << assumptionsNow;
            deriveAll(rules, assumptionNodes);
            for (int env = 0; env < environments; env++) {
                areSound[env] = !rules.contradict(held[env]);
            }
            for (int env = 0; env < environments; env++) {
                labelled[env] = areSound[env] ? held[env] & ~heldBelow(env) : 0;
                areNogoods[env] = !areSound[env] && isSoundBelow(env);
                areWorlds[env] = areSound[env] && !isSoundAbove(env);
            }
        }

        /** Each environment starts from what holds without its last assumption, which saves rounds. */
        private void deriveAll(RuleBook rules, int[] assumptionNodes) {
            held[0] = rules.closure(0);
            for (int last = 0; last < assumptions; last++) {
                int lowest = 1 << last;
                for (int rest = 0; rest < lowest; rest++) {
                    held[lowest + rest] = rules.closure(held[rest] | 1 << assumptionNodes[last]);
                }
            }
        }

        private int heldBelow(int env) {
            int united = 0;
            for (int assumption = 0; assumption < assumptions; assumption++) {
                if (contains(env, assumption)) {
                    united |= held[env - (1 << assumption)];
                }
            }
            return united;
        }

        private boolean isSoundBelow(int env) {
            for (int assumption = 0; assumption < assumptions; assumption++) {
                if (contains(env, assumption) && !areSound[env - (1 << assumption)]) {
                    return false;
                }
            }
            return true;
        }

        private boolean isSoundAbove(int env) {
            for (int assumption = 0; assumption < assumptions; assumption++) {
                if (!contains(env, assumption) && areSound[env + (1 << assumption)]) {
                    return true;
                }
            }
            return false;
        }

        int environmentCount() {
            return environments;
        }

        boolean isSound(int env) {
            return areSound[env];
        }

        boolean isWorld(int env) {
            return areWorlds[env];
        }

        boolean isHeld(int node, int env) {
            return contains(held[env], node);
        }

        boolean isInLabel(int node, int env) {
            return contains(labelled[env], node);
        }

        int sizeOfLabel(int node) {
            int size = 0;
            for (int env = 0; env < environments; env++) {
                if (isInLabel(node, env)) {
                    size++;
                }
            }
            return size;
        }

        int memberOfLabel(int node, int index) {
            int passed = 0;
            for (int env = 0; env < environments; env++) {
                if (isInLabel(node, env)) {
                    if (passed == index) {
                        return env;
                    }
                    passed++;
                }
            }
            return NO_ENVIRONMENT;
        }

        int countNogoods() {
            return countMarks(areNogoods);
        }

        int nogoodAt(int index) {
            return markAt(areNogoods, index);
        }

        int countWorlds() {
            return countMarks(areWorlds);
        }

        int worldAt(int index) {
            return markAt(areWorlds, index);
        }

        private int countMarks(boolean[] marks) {
            int count = 0;
            for (int env = 0; env < environments; env++) {
                if (marks[env]) {
                    count++;
                }
            }
            return count;
        }

        private int markAt(boolean[] marks, int index) {
            int passed = 0;
            for (int env = 0; env < environments; env++) {
                if (marks[env]) {
                    if (passed == index) {
                        return env;
                    }
                    passed++;
                }
            }
            return NO_ENVIRONMENT;
        }

        long mixLabel(long start, int node) {
            long sum = mix(start, sizeOfLabel(node));
            for (int env = 0; env < environments; env++) {
                if (isInLabel(node, env)) {
                    sum = mix(sum, env);
                }
            }
            return sum;
        }

        long mixNogoods(long start) {
            return mixMarks(start, areNogoods);
        }

        long mixWorlds(long start) {
            return mixMarks(start, areWorlds);
        }

        private long mixMarks(long start, boolean[] marks) {
            long sum = mix(start, countMarks(marks));
            for (int env = 0; env < environments; env++) {
                if (marks[env]) {
                    sum = mix(sum, env);
                }
            }
            return sum;
        }
    }
}
