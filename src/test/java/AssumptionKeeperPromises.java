import java.util.Objects;
import java.util.stream.LongStream;

/** For each promise of the document the ordinary inputs, the edges that it names, and wrong inputs. */
public final class AssumptionKeeperPromises {
    private static final String INDEX = "throws.IndexOutOfBoundsException";
    private static final String ARGUMENT = "throws.IllegalArgumentException";
    private static final String STATE = "throws.IllegalStateException";
    private static final int[] NO_NODES = {Integer.MIN_VALUE, -2, -1, 24, 31, 32, 64, Integer.MAX_VALUE};

    private static int wrong = 0;

    private interface Call {
        Object answer();
    }

    private static void due(String what, Object want, Call call) {
        Object got;
        try {
            got = call.answer();
        } catch (RuntimeException e) {
            got = "throws." + e.getClass().getSimpleName();
        }
        if (!Objects.equals(got, want)) {
            wrong++;
            System.out.println(what + " answered " + got + ", due is " + want);
        }
    }

    private static void unchanged(String what, long digest, AssumptionKeeper keeper) {
        due(what + ": the digest after a call that throws", digest, keeper::digest);
    }

    private static AssumptionKeeper withAssumptions(int... weights) {
        AssumptionKeeper keeper = new AssumptionKeeper();
        for (int weight : weights) {
            keeper.addAssumption(weight);
        }
        return keeper;
    }

    private static AssumptionKeeper withStatements(int count) {
        AssumptionKeeper keeper = new AssumptionKeeper();
        for (int i = 0; i < count; i++) {
            keeper.addStatement();
        }
        return keeper;
    }

    private static int set(int... members) {
        int set = 0;
        for (int member : members) {
            set |= 1 << member;
        }
        return set;
    }

    private static long digestOf(long... numbers) {
        long d = 113;
        for (long x : numbers) {
            d = d * 31 + x;
        }
        return d;
    }

    /**
     * Nodes 0 statement s, 1 assumption a, 2 statement t, 3 assumption b, 4 assumption c, 5 statement u;
     * a -> s, b c -> s, s -> t, t -> u, a c -> contradiction. Assumption numbers differ from node numbers.
     */
    private static AssumptionKeeper mixed() {
        AssumptionKeeper keeper = new AssumptionKeeper();
        keeper.addStatement();
        keeper.addAssumption(9);
        keeper.addStatement();
        keeper.addAssumption(4);
        keeper.addAssumption(5);
        keeper.addStatement();
        keeper.addRule(set(1), 0);
        keeper.addRule(set(3, 4), 0);
        keeper.addRule(set(0), 2);
        keeper.addRule(set(2), 5);
        keeper.addRule(set(1, 4), -1);
        return keeper;
    }

    private static void promise1NewObject() {
        AssumptionKeeper keeper = new AssumptionKeeper();
        due("1 nodeCount", 0, keeper::nodeCount);
        due("1 assumptionCount", 0, keeper::assumptionCount);
        due("1 no rule to drop", STATE, keeper::drop);
        due("1 no node", INDEX, () -> keeper.assumptionOf(0));
        due("1 no assumption", INDEX, () -> keeper.nodeOf(0));
        due("1 the empty environment is consistent", true, () -> keeper.isConsistent(0));
        due("1 worldCount", 1, keeper::worldCount);
        due("1 world(0)", 0, () -> keeper.world(0));
        due("1 nogoodCount", 0, keeper::nogoodCount);
        due("1 digest", digestOf(0, 0, 0, 0, 1, 0), keeper::digest);
        AssumptionKeeper other = withStatements(3);
        due("1 another object has nodes of its own", 3, other::nodeCount);
        due("1 and leaves this one alone", 0, keeper::nodeCount);
    }

    private static void promise2AddStatement() {
        AssumptionKeeper keeper = new AssumptionKeeper();
        for (int i = 0; i < 24; i++) {
            due("2 addStatement " + i, i, keeper::addStatement);
        }
        long before = keeper.digest();
        due("2 the 25th node", STATE, keeper::addStatement);
        due("2 nodeCount stays", 24, keeper::nodeCount);
        unchanged("2", before, keeper);
        AssumptionKeeper both = withAssumptions(1);
        due("2 behind an assumption", 1, both::addStatement);
        due("2 is a statement", -1, () -> both.assumptionOf(1));
    }

    private static void promise3AddAssumption() {
        AssumptionKeeper keeper = withStatements(1);
        long before = keeper.digest();
        for (int weight : new int[] {0, -1, 101, Integer.MIN_VALUE, Integer.MAX_VALUE}) {
            due("3 weight " + weight, ARGUMENT, () -> keeper.addAssumption(weight));
        }
        unchanged("3", before, keeper);
        due("3 weight 1", 1, () -> keeper.addAssumption(1));
        due("3 weight 100", 2, () -> keeper.addAssumption(100));
        due("3 costs", 101, () -> keeper.cost(3));
        for (int i = 2; i < 9; i++) {
            int node = i + 1;
            due("3 assumption " + i, node, () -> keeper.addAssumption(50));
        }
        before = keeper.digest();
        due("3 the tenth assumption", STATE, () -> keeper.addAssumption(50));
        due("3 the tenth assumption with a wrong weight", ARGUMENT, () -> keeper.addAssumption(0));
        due("3 assumptionCount stays", 9, keeper::assumptionCount);
        due("3 nodeCount stays", 10, keeper::nodeCount);
        unchanged("3", before, keeper);
        AssumptionKeeper full = withStatements(24);
        due("3 the 25th node", STATE, () -> full.addAssumption(50));
        due("3 the 25th node with a wrong weight", ARGUMENT, () -> full.addAssumption(101));
        due("3 assumptionCount of the full one", 0, full::assumptionCount);
        AssumptionKeeper last = withStatements(23);
        due("3 the 24th node", 23, () -> last.addAssumption(7));
    }

    private static void promise4SetWeight() {
        AssumptionKeeper keeper = mixed();
        due("4 the weight before", 4, () -> keeper.setWeight(1, 100));
        due("4 again", 100, () -> keeper.setWeight(1, 1));
        due("4 cost", 1, () -> keeper.cost(2));
        due("4 another weight stays", 9, () -> keeper.cost(1));
        long before = keeper.digest();
        for (int assumption : new int[] {-1, 3, 8, 9, 32, Integer.MIN_VALUE, Integer.MAX_VALUE}) {
            due("4 assumption " + assumption, INDEX, () -> keeper.setWeight(assumption, 5));
            due("4 both wrong " + assumption, INDEX, () -> keeper.setWeight(assumption, 0));
        }
        for (int weight : new int[] {0, -1, 101, Integer.MIN_VALUE, Integer.MAX_VALUE}) {
            due("4 weight " + weight, ARGUMENT, () -> keeper.setWeight(1, weight));
        }
        unchanged("4", before, keeper);
        AssumptionKeeper choice = withAssumptions(3, 3, 3);
        choice.addStatement();
        choice.addRule(set(0), 3);
        choice.addRule(set(1), 3);
        due("4 cheapest before", 1, () -> choice.cheapest(3));
        choice.setWeight(1, 2);
        due("4 cheapest after", 2, () -> choice.cheapest(3));
    }

    private static void promise5AddRule() {
        AssumptionKeeper keeper = withStatements(3);
        due("5 an empty body", 0, () -> keeper.addRule(0, 0));
        due("5 a full body", 1, () -> keeper.addRule(7, 2));
        due("5 a contradiction", 2, () -> keeper.addRule(4, -1));
        due("5 its head in its body", 3, () -> keeper.addRule(4, 2));
        due("5 it is on", true, () -> keeper.turn(2, true));
        long before = keeper.digest();
        for (int body : new int[] {8, 15, 1 << 24, 1 << 30, -1, -8, Integer.MIN_VALUE, Integer.MAX_VALUE}) {
            due("5 body " + body, ARGUMENT, () -> keeper.addRule(body, 0));
            due("5 both wrong " + body, ARGUMENT, () -> keeper.addRule(body, 3));
        }
        for (int head : new int[] {-2, 3, 24, 31, 32, Integer.MIN_VALUE, Integer.MAX_VALUE}) {
            due("5 head " + head, INDEX, () -> keeper.addRule(1, head));
        }
        unchanged("5", before, keeper);
        for (int i = 4; i < 40; i++) {
            due("5 rule " + i, i, () -> keeper.addRule(2, 2));
        }
        before = keeper.digest();
        due("5 the 41st", STATE, () -> keeper.addRule(2, 2));
        due("5 the 41st with a wrong head", INDEX, () -> keeper.addRule(2, 3));
        due("5 the 41st with a wrong body", ARGUMENT, () -> keeper.addRule(8, 3));
        unchanged("5", before, keeper);
        AssumptionKeeper full = withStatements(24);
        due("5 the body of all 24", 0, () -> full.addRule((1 << 24) - 1, 23));
        due("5 more than all 24", ARGUMENT, () -> full.addRule(1 << 24, 23));
    }

    private static void promise6Turn() {
        AssumptionKeeper keeper = mixed();
        due("6 off", true, () -> keeper.turn(4, false));
        due("6 its contradiction is away", true, () -> keeper.isConsistent(5));
        due("6 no nogood is left", 0, keeper::nogoodCount);
        due("6 off again", false, () -> keeper.turn(4, false));
        due("6 on", false, () -> keeper.turn(4, true));
        due("6 its contradiction is back", false, () -> keeper.isConsistent(5));
        due("6 the nogood is back", 1, keeper::nogoodCount);
        due("6 on again", true, () -> keeper.turn(4, true));
        due("6 off in the midst", true, () -> keeper.turn(2, false));
        due("6 the chain is broken", false, () -> keeper.holds(5, 1));
        due("6 its label is empty", 0, () -> keeper.labelSize(5));
        long before = keeper.digest();
        for (int rule : new int[] {-1, 5, 39, 40, Integer.MIN_VALUE, Integer.MAX_VALUE}) {
            due("6 rule " + rule, INDEX, () -> keeper.turn(rule, true));
        }
        unchanged("6", before, keeper);
        due("6 no rule at all", INDEX, () -> new AssumptionKeeper().turn(0, true));
    }

    private static void promise7Drop() {
        AssumptionKeeper keeper = mixed();
        due("7 nogoods before", 1, keeper::nogoodCount);
        due("7 drop", 4, keeper::drop);
        due("7 nogoods after", 0, keeper::nogoodCount);
        due("7 the dropped rule is no rule", INDEX, () -> keeper.turn(4, true));
        keeper.turn(3, false);
        due("7 drop one that is off", 3, keeper::drop);
        due("7 its number is given again", 3, () -> keeper.addRule(set(2), 5));
        due("7 and the new one is on", true, () -> keeper.turn(3, true));
        for (int left = 3; left >= 0; left--) {
            due("7 drop to " + left, left, keeper::drop);
        }
        due("7 only itself holds", 1, () -> keeper.heldCount(1));
        long before = keeper.digest();
        due("7 none is left", STATE, keeper::drop);
        unchanged("7", before, keeper);
        due("7 the first number again", 0, () -> keeper.addRule(0, 0));
    }

    private static void promises8To11Counts() {
        AssumptionKeeper keeper = mixed();
        due("8 nodeCount", 6, keeper::nodeCount);
        due("9 assumptionCount", 3, keeper::assumptionCount);
        int[] assumptions = {-1, 0, -1, 1, 2, -1};
        for (int node = 0; node < 6; node++) {
            int at = node;
            due("10 assumptionOf " + node, assumptions[node], () -> keeper.assumptionOf(at));
        }
        int[] nodes = {1, 3, 4};
        for (int assumption = 0; assumption < 3; assumption++) {
            int at = assumption;
            due("11 nodeOf " + assumption, nodes[assumption], () -> keeper.nodeOf(at));
        }
        for (int node : new int[] {-1, 6, 23, 24, 25, Integer.MIN_VALUE, Integer.MAX_VALUE}) {
            due("10 assumptionOf " + node, INDEX, () -> keeper.assumptionOf(node));
        }
        for (int assumption : new int[] {-1, 3, 8, 9, 10, Integer.MIN_VALUE, Integer.MAX_VALUE}) {
            due("11 nodeOf " + assumption, INDEX, () -> keeper.nodeOf(assumption));
        }
    }

    private static void promises12To14Derivations() {
        AssumptionKeeper keeper = mixed();
        due("12 from a", true, () -> keeper.holds(5, 1));
        due("12 from b c", true, () -> keeper.holds(5, 6));
        due("12 not from b", false, () -> keeper.holds(5, 2));
        due("12 an assumption in it", true, () -> keeper.holds(3, 2));
        due("12 an assumption not in it", false, () -> keeper.holds(3, 5));
        due("12 in an inconsistent one", true, () -> keeper.holds(5, 5));
        due("13 depth 0", 0, () -> keeper.depth(3, 2));
        due("13 depth 1", 1, () -> keeper.depth(0, 6));
        due("13 depth 2", 2, () -> keeper.depth(2, 6));
        due("13 depth 3", 3, () -> keeper.depth(5, 1));
        due("13 no depth", -1, () -> keeper.depth(5, 4));
        due("14 itself", -1, () -> keeper.support(1, 7));
        due("14 the first of two", 0, () -> keeper.support(0, 7));
        due("14 the second", 1, () -> keeper.support(0, 6));
        due("14 further on", 3, () -> keeper.support(5, 6));
        due("14 none", -2, () -> keeper.support(5, 2));
        keeper.turn(0, false);
        due("14 not one that is off", 1, () -> keeper.support(0, 7));
        keeper.addRule(set(3), 1);
        due("12 an assumption that is derived", true, () -> keeper.holds(1, 2));
        due("13 an assumption that is derived", 1, () -> keeper.depth(1, 2));
        due("14 an assumption that is derived", 5, () -> keeper.support(1, 2));
        due("14 an assumption that is derived and in it", -1, () -> keeper.support(1, 3));
        for (int node : new int[] {-1, 6, 24, 32, Integer.MIN_VALUE, Integer.MAX_VALUE}) {
            for (int env : new int[] {0, -1, 8}) {
                due("12 node " + node, INDEX, () -> keeper.holds(node, env));
                due("13 node " + node, INDEX, () -> keeper.depth(node, env));
                due("14 node " + node, INDEX, () -> keeper.support(node, env));
            }
        }
        for (int env : new int[] {-1, 8, 15, 512, 1 << 30, Integer.MIN_VALUE, Integer.MAX_VALUE}) {
            due("12 env " + env, ARGUMENT, () -> keeper.holds(0, env));
            due("13 env " + env, ARGUMENT, () -> keeper.depth(0, env));
            due("14 env " + env, ARGUMENT, () -> keeper.support(0, env));
        }
    }

    private static void supportLooksAtSmallerDepthsOnly() {
        AssumptionKeeper keeper = withAssumptions(1);
        keeper.addStatement();
        keeper.addStatement();
        keeper.addRule(set(2), 1);
        keeper.addRule(set(1), 1);
        keeper.addRule(set(0), 1);
        keeper.addRule(set(0), 2);
        due("14 not a rule from the same round", 2, () -> keeper.support(1, 1));
        keeper.addRule(set(0), 1);
        due("14 the first of those that serve", 2, () -> keeper.support(1, 1));
    }

    private static void theLongestChain() {
        AssumptionKeeper keeper = withStatements(24);
        keeper.addRule(0, 23);
        for (int node = 22; node >= 0; node--) {
            keeper.addRule(set(node + 1), node);
        }
        due("12 the end of the chain", true, () -> keeper.holds(0, 0));
        due("13 the greatest depth", 24, () -> keeper.depth(0, 0));
        due("13 the least depth by a rule", 1, () -> keeper.depth(23, 0));
        due("14 the end of the chain", 23, () -> keeper.support(0, 0));
        due("15 all hold", 24, () -> keeper.heldCount(0));
        due("19 the end of the chain", 1, () -> keeper.labelSize(0));
        keeper.addRule(set(0), -1);
        due("16 the chain ends in a contradiction", false, () -> keeper.isConsistent(0));
        due("26 then there is no world", 0, keeper::worldCount);
    }

    private static void promises15To17Environments() {
        AssumptionKeeper keeper = mixed();
        int[] counts = {0, 4, 1, 5, 1, 5, 5, 6};
        int[] costs = {0, 9, 4, 13, 5, 14, 9, 18};
        for (int at = 0; at < 8; at++) {
            int env = at;
            due("15 heldCount " + env, counts[env], () -> keeper.heldCount(env));
            due("16 isConsistent " + env, env != 5 && env != 7, () -> keeper.isConsistent(env));
            due("17 cost " + env, costs[env], () -> keeper.cost(env));
        }
        for (int env : new int[] {-1, 8, 512, 1 << 30, Integer.MIN_VALUE, Integer.MAX_VALUE}) {
            due("15 env " + env, ARGUMENT, () -> keeper.heldCount(env));
            due("16 env " + env, ARGUMENT, () -> keeper.isConsistent(env));
            due("17 env " + env, ARGUMENT, () -> keeper.cost(env));
        }
        AssumptionKeeper most = withAssumptions(100, 100, 100, 100, 100, 100, 100, 100, 100);
        due("17 the greatest cost", 900, () -> most.cost(511));
        due("15 all nine", 9, () -> most.heldCount(511));
        due("17 beyond nine", ARGUMENT, () -> most.cost(512));
    }

    private static void promise18Extend() {
        AssumptionKeeper keeper = withAssumptions(5, 7, 7, 6);
        keeper.addRule(set(1, 2), -1);
        keeper.addRule(set(2, 3), -1);
        keeper.addRule(set(0, 3), -1);
        due("18 of the same weight the smaller number first", set(1, 3), () -> keeper.extend(0));
        due("18 keeps what is in it", set(0, 2), () -> keeper.extend(set(2)));
        due("18 keeps a light one", set(0, 1), () -> keeper.extend(set(0)));
        due("18 nothing to add", set(1, 3), () -> keeper.extend(set(1, 3)));
        keeper.setWeight(2, 8);
        due("18 the greater weight first", set(0, 2), () -> keeper.extend(0));
        due("18 does not change the keeper", set(0, 2), () -> keeper.extend(0));
        long before = keeper.digest();
        for (int env : new int[] {-1, 16, 512, Integer.MIN_VALUE, Integer.MAX_VALUE}) {
            due("18 env " + env, ARGUMENT, () -> keeper.extend(env));
        }
        due("18 an inconsistent one", STATE, () -> keeper.extend(set(1, 2)));
        unchanged("18", before, keeper);
        keeper.addRule(0, -1);
        due("18 all are inconsistent", STATE, () -> keeper.extend(0));
        due("18 no environment goes first", ARGUMENT, () -> keeper.extend(16));
        due("18 without assumptions", 0, () -> new AssumptionKeeper().extend(0));
        AssumptionKeeper all = withAssumptions(1, 2, 3, 4, 5, 6, 7, 8, 9);
        due("18 all nine", 511, () -> all.extend(0));
        AssumptionKeeper derived = withAssumptions(9, 8);
        derived.addStatement();
        derived.addRule(set(0), 2);
        derived.addRule(set(1, 2), -1);
        due("18 by what is derived", 1, () -> derived.extend(0));
    }

    private static void promises19And20Labels() {
        AssumptionKeeper keeper = mixed();
        due("19 two ways", 2, () -> keeper.labelSize(5));
        due("20 the first", 1, () -> keeper.label(5, 0));
        due("20 the second", 6, () -> keeper.label(5, 1));
        due("19 an assumption", 1, () -> keeper.labelSize(4));
        due("20 an assumption", 4, () -> keeper.label(4, 0));
        for (int index : new int[] {-1, 2, 512, Integer.MIN_VALUE, Integer.MAX_VALUE}) {
            due("20 index " + index, INDEX, () -> keeper.label(5, index));
        }
        for (int node : new int[] {-1, 6, 24, 32, Integer.MIN_VALUE, Integer.MAX_VALUE}) {
            due("19 node " + node, INDEX, () -> keeper.labelSize(node));
            due("20 node " + node, INDEX, () -> keeper.label(node, 0));
        }
        keeper.addRule(set(3, 4), -1);
        due("19 inconsistent ones are left out", 1, () -> keeper.labelSize(5));
        due("20 inconsistent ones are left out", 1, () -> keeper.label(5, 0));
        keeper.addRule(0, 5);
        due("19 from nothing", 1, () -> keeper.labelSize(5));
        due("20 from nothing", 0, () -> keeper.label(5, 0));
        keeper.addRule(0, 4);
        due("20 an assumption from nothing", 0, () -> keeper.label(4, 0));
        keeper.addRule(0, -1);
        due("19 nothing is consistent", 0, () -> keeper.labelSize(4));
        due("20 nothing is consistent", INDEX, () -> keeper.label(4, 0));
        AssumptionKeeper loop = withStatements(2);
        loop.addRule(set(0), 1);
        loop.addRule(set(1), 0);
        due("19 a ring does not hold itself up", 0, () -> loop.labelSize(0));
    }

    private static void promises21To23LabelSums() {
        AssumptionKeeper keeper = mixed();
        due("21 of the same cost the smaller number", 1, () -> keeper.cheapest(5));
        keeper.setWeight(0, 10);
        due("21 the least cost", 6, () -> keeper.cheapest(5));
        due("22 in none of all", 0, () -> keeper.needed(5));
        due("23 in some", 7, () -> keeper.useful(5));
        keeper.addStatement();
        due("21 an empty label", -1, () -> keeper.cheapest(6));
        due("22 an empty label", 7, () -> keeper.needed(6));
        due("23 an empty label", 0, () -> keeper.useful(6));
        keeper.addRule(set(0, 3), 6);
        due("22 in all", 2, () -> keeper.needed(6));
        due("23 in some of two", 7, () -> keeper.useful(6));
        keeper.addRule(set(3), 6);
        due("23 only the least", 2, () -> keeper.useful(6));
        keeper.addRule(0, 6);
        due("21 the empty environment", 0, () -> keeper.cheapest(6));
        due("22 the empty environment", 0, () -> keeper.needed(6));
        due("23 the empty environment", 0, () -> keeper.useful(6));
        for (int node : new int[] {-1, 7, 24, 32, Integer.MIN_VALUE, Integer.MAX_VALUE}) {
            due("21 node " + node, INDEX, () -> keeper.cheapest(node));
            due("22 node " + node, INDEX, () -> keeper.needed(node));
            due("23 node " + node, INDEX, () -> keeper.useful(node));
        }
    }

    private static void promises24To28NogoodsAndWorlds() {
        AssumptionKeeper keeper = mixed();
        keeper.addAssumption(1);
        keeper.addRule(set(6, 2), -1);
        due("24 nogoodCount", 3, keeper::nogoodCount);
        due("25 nogood(0)", 5, () -> keeper.nogood(0));
        due("25 nogood(1)", 9, () -> keeper.nogood(1));
        due("25 nogood(2)", 14, () -> keeper.nogood(2));
        due("26 worldCount", 4, keeper::worldCount);
        due("27 world(0)", 3, () -> keeper.world(0));
        due("27 world(1)", 6, () -> keeper.world(1));
        due("27 world(2)", 10, () -> keeper.world(2));
        due("27 world(3)", 12, () -> keeper.world(3));
        due("28 in two", 2, () -> keeper.worldsWith(5));
        due("28 an assumption", 3, () -> keeper.worldsWith(3));
        for (int index : new int[] {-1, 4, 512, Integer.MIN_VALUE, Integer.MAX_VALUE}) {
            due("25 index " + index, INDEX, () -> keeper.nogood(index));
            due("27 index " + index, INDEX, () -> keeper.world(index));
        }
        due("25 index 3", INDEX, () -> keeper.nogood(3));
        for (int node : new int[] {-1, 7, 24, 32, Integer.MIN_VALUE, Integer.MAX_VALUE}) {
            due("28 node " + node, INDEX, () -> keeper.worldsWith(node));
        }
        keeper.addRule(0, -1);
        due("24 the empty one alone", 1, keeper::nogoodCount);
        due("25 the empty one", 0, () -> keeper.nogood(0));
        due("26 no world", 0, keeper::worldCount);
        due("27 no world", INDEX, () -> keeper.world(0));
        due("28 no world", 0, () -> keeper.worldsWith(5));
        AssumptionKeeper free = withAssumptions(1, 1);
        due("24 no nogood", 0, free::nogoodCount);
        due("25 no nogood", INDEX, () -> free.nogood(0));
        due("26 one world", 1, free::worldCount);
        due("27 the world of all", 3, () -> free.world(0));
    }

    private static void theGreatestFamilies() {
        AssumptionKeeper keeper = withAssumptions(1, 1, 1, 1, 1, 1, 1, 1, 1);
        for (int a = 0; a < 9; a++) {
            for (int b = 0; b < a; b++) {
                keeper.addRule(set(a, b), -1);
            }
        }
        due("24 all pairs", 36, keeper::nogoodCount);
        due("25 the last pair", 384, () -> keeper.nogood(35));
        due("26 nine worlds", 9, keeper::worldCount);
        due("27 the last world", 256, () -> keeper.world(8));
        due("28 each in its own", 1, () -> keeper.worldsWith(4));
        due("29 one of ten", 0.1, () -> keeper.belief(4));
    }

    private static void promise29Belief() {
        AssumptionKeeper keeper = mixed();
        due("29 three of six", 0.5, () -> keeper.belief(5));
        due("29 two of six", 2.0 / 6.0, () -> keeper.belief(1));
        due("29 three of six, an assumption", 0.5, () -> keeper.belief(3));
        keeper.addStatement();
        due("29 never", 0.0, () -> keeper.belief(6));
        keeper.addRule(0, 6);
        due("29 always", 1.0, () -> keeper.belief(6));
        keeper.addRule(0, -1);
        due("29 no consistent environment", 0.0, () -> keeper.belief(6));
        for (int node : new int[] {-1, 7, 24, 32, Integer.MIN_VALUE, Integer.MAX_VALUE}) {
            due("29 node " + node, INDEX, () -> keeper.belief(node));
        }
    }

    private static void promises30And31Relations() {
        AssumptionKeeper keeper = mixed();
        due("30 forth", true, () -> keeper.implies(1, 5));
        due("30 not back", false, () -> keeper.implies(5, 1));
        due("30 itself", true, () -> keeper.implies(3, 3));
        due("31 by a nogood", true, () -> keeper.excludes(1, 4));
        due("31 the other way", true, () -> keeper.excludes(4, 1));
        due("31 not", false, () -> keeper.excludes(1, 3));
        due("31 not itself", false, () -> keeper.excludes(3, 3));
        due("30 not what it excludes", false, () -> keeper.implies(1, 4));
        keeper.addStatement();
        due("30 what never holds", true, () -> keeper.implies(6, 1));
        due("30 not what never holds", false, () -> keeper.implies(1, 6));
        due("31 what never holds, with itself", true, () -> keeper.excludes(6, 6));
        keeper.addRule(set(1, 4), 6);
        due("30 inconsistent ones do not count", true, () -> keeper.implies(6, 3));
        due("31 inconsistent ones do not count", true, () -> keeper.excludes(6, 1));
        for (int node : new int[] {-1, 7, 24, 32, Integer.MIN_VALUE, Integer.MAX_VALUE}) {
            due("30 a " + node, INDEX, () -> keeper.implies(node, 0));
            due("30 b " + node, INDEX, () -> keeper.implies(0, node));
            due("31 a " + node, INDEX, () -> keeper.excludes(node, 0));
            due("31 b " + node, INDEX, () -> keeper.excludes(0, node));
        }
        keeper.addRule(0, -1);
        due("30 all is implied", true, () -> keeper.implies(1, 6));
        due("31 all is excluded", true, () -> keeper.excludes(1, 1));
    }

    private static void promise32Digest() {
        AssumptionKeeper keeper = mixed();
        keeper.turn(3, false);
        long want = digestOf(6,
                -1, 2, 1, 6, 0, 1, 1, -1, 2, 1, 6, 1, 1, 2, 2, 1, 4, -1, 0,
                3, 9, 4, 5,
                5, 2, 0, 1, 24, 0, 1, 1, 2, 1, 4, 5, 0, 18, -1, 1,
                1, 5,
                2, 3, 6);
        due("32 digest", want, keeper::digest);
        due("32 digest again", want, keeper::digest);
        keeper.setWeight(0, 8);
        due("32 a weight changes it", true, () -> keeper.digest() != want);
        keeper.setWeight(0, 9);
        keeper.turn(2, false);
        due("32 a rule that is off changes it", true, () -> keeper.digest() != want);
        keeper.turn(2, true);
        due("32 and is back", want, keeper::digest);
    }

    /** All limits at once: 9 assumptions, 15 statements, 40 rules, so that no row is read beyond its end. */
    private static void theFullKeeper() {
        AssumptionKeeper keeper = withAssumptions(1, 2, 3, 4, 5, 6, 7, 8, 9);
        for (int node = 9; node < 24; node++) {
            keeper.addStatement();
        }
        for (int rule = 0; rule < 38; rule++) {
            keeper.addRule(set(0, 1, 2, 3, 4, 5, 6, 7, 8), 23);
        }
        keeper.addRule(set(23), 22);
        keeper.addRule(set(22), 8);
        due("full: cost", 45, () -> keeper.cost(511));
        due("full: heldCount", 11, () -> keeper.heldCount(511));
        due("full: depth", 2, () -> keeper.depth(22, 511));
        due("full: support", 38, () -> keeper.support(22, 511));
        due("full: no support", -2, () -> keeper.support(21, 511));
        due("full: extend", 511, () -> keeper.extend(0));
        due("full: label", 511, () -> keeper.label(23, 0));
        due("full: no second in the label", INDEX, () -> keeper.label(23, 1));
        due("full: cheapest", 511, () -> keeper.cheapest(23));
        due("full: needed", 511, () -> keeper.needed(23));
        due("full: needed of an empty label", 511, () -> keeper.needed(21));
        due("full: useful", 511, () -> keeper.useful(23));
        due("full: no nogood", INDEX, () -> keeper.nogood(0));
        due("full: no second world", INDEX, () -> keeper.world(1));
        due("full: worldsWith", 1, () -> keeper.worldsWith(23));
        due("full: belief", 1.0 / 512.0, () -> keeper.belief(23));
        due("full: implies", true, () -> keeper.implies(23, 0));
        due("full: excludes", true, () -> keeper.excludes(21, 23));
        due("full: digest", digestOfFullKeeper(), keeper::digest);
        keeper.drop();
        keeper.addRule(set(22), -1);
        due("full: nogood", 511, () -> keeper.nogood(0));
        due("full: worlds", 9, keeper::worldCount);
        due("full: the last world", 510, () -> keeper.world(8));
        due("full: no tenth world", INDEX, () -> keeper.world(9));
        due("full: extend by the heavy ones", 510, () -> keeper.extend(0));
        due("full: nothing of it is left", 0, () -> keeper.labelSize(23));
    }

    private static long digestOfFullKeeper() {
        LongStream.Builder numbers = LongStream.builder().add(24);
        for (int node = 0; node < 9; node++) {
            numbers.add(node).add(1).add(1 << node);
        }
        for (int node = 9; node < 22; node++) {
            numbers.add(-1).add(0);
        }
        numbers.add(-1).add(1).add(511).add(-1).add(1).add(511);
        numbers.add(9);
        for (int weight = 1; weight <= 9; weight++) {
            numbers.add(weight);
        }
        numbers.add(40);
        for (int rule = 0; rule < 38; rule++) {
            numbers.add(511).add(23).add(1);
        }
        numbers.add(set(23)).add(22).add(1).add(set(22)).add(8).add(1);
        numbers.add(0).add(1).add(511);
        return digestOf(numbers.build().toArray());
    }

    /** What is told of all environments follows each change at once. */
    private static void answersFollowChanges() {
        AssumptionKeeper keeper = new AssumptionKeeper();
        due("follow: the empty world", 0, () -> keeper.world(0));
        keeper.addAssumption(1);
        due("follow: a new assumption", 1, () -> keeper.world(0));
        due("follow: its label", 1, () -> keeper.label(0, 0));
        keeper.addRule(set(0), -1);
        due("follow: a new rule", 0, () -> keeper.world(0));
        keeper.addAssumption(1);
        due("follow: a second assumption", 2, () -> keeper.world(0));
        keeper.turn(0, false);
        due("follow: a rule that is off", 3, () -> keeper.world(0));
        keeper.turn(0, true);
        due("follow: a rule that is on", 2, () -> keeper.world(0));
        keeper.drop();
        due("follow: a rule less", 3, () -> keeper.world(0));
        keeper.addStatement();
        due("follow: a new statement", 0, () -> keeper.labelSize(2));
    }

    /** The empty environment counts like every other one. */
    private static void theEmptyEnvironment() {
        AssumptionKeeper keeper = withStatements(2);
        keeper.addRule(0, 0);
        due("empty env: label", 0, () -> keeper.label(0, 0));
        due("empty env: worldsWith", 1, () -> keeper.worldsWith(0));
        due("empty env: belief", 1.0, () -> keeper.belief(0));
        due("empty env: implies", false, () -> keeper.implies(0, 1));
        due("empty env: excludes", false, () -> keeper.excludes(0, 0));
        due("empty env: digest", digestOf(2, -1, 1, 0, -1, 0, 0, 1, 0, 0, 1, 0, 1, 0), keeper::digest);
        keeper.addRule(0, -1);
        due("empty env: digest with a nogood",
                digestOf(2, -1, 0, -1, 0, 0, 2, 0, 0, 1, 0, -1, 1, 1, 0, 0), keeper::digest);
    }

    private static void noNodeWhereThereIsNone() {
        AssumptionKeeper empty = new AssumptionKeeper();
        AssumptionKeeper full = withStatements(24);
        for (int node : NO_NODES) {
            due("full: node " + node, INDEX, () -> full.holds(node, 0));
            due("full: label " + node, INDEX, () -> full.label(node, 0));
            due("empty: node " + node, INDEX, () -> empty.holds(node, 0));
            due("empty: belief " + node, INDEX, () -> empty.belief(node));
        }
        due("full: the last node", false, () -> full.holds(23, 0));
        due("empty: env 1", ARGUMENT, () -> empty.isConsistent(1));
    }

    public static void main(String[] args) {
        promise1NewObject();
        promise2AddStatement();
        promise3AddAssumption();
        promise4SetWeight();
        promise5AddRule();
        promise6Turn();
        promise7Drop();
        promises8To11Counts();
        promises12To14Derivations();
        supportLooksAtSmallerDepthsOnly();
        theLongestChain();
        promises15To17Environments();
        promise18Extend();
        promises19And20Labels();
        promises21To23LabelSums();
        promises24To28NogoodsAndWorlds();
        theGreatestFamilies();
        promise29Belief();
        promises30And31Relations();
        promise32Digest();
        noNodeWhereThereIsNone();
        theFullKeeper();
        answersFollowChanges();
        theEmptyEnvironment();
        if (wrong > 0) {
            System.exit(1);
        }
    }
}
