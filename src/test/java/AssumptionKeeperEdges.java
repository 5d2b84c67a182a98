import java.math.BigInteger;
import java.util.ArrayList;
import java.util.List;
import java.util.Objects;

/**
 * Each sentence of the document that names a boundary case without an exception has a test of its own: the limits of
 * the description, what is answered where there is none, the first and the last number, and the 512th call.
 */
public final class AssumptionKeeperEdges {
    private static final String INDEX = "throws.IndexOutOfBoundsException";
    private static final String ARGUMENT = "throws.IllegalArgumentException";
    private static final String STATE = "throws.IllegalStateException";

    private static int wrong = 0;
    private static String sentence = "";

    private interface Call {
        Object answer();
    }

    private static void test(String quoted, Runnable body) {
        sentence = quoted;
        try {
            body.run();
        } catch (RuntimeException e) {
            wrong++;
            System.out.println(sentence + " could not be tried: " + e);
        }
    }

    private static void due(String what, Object want, Call call) {
        Object got;
        try {
            got = call.answer();
        } catch (RuntimeException e) {
            got = "throws." + e.getClass().getSimpleName();
        }
        if (!Objects.equals(got, want)) {
            wrong++;
            System.out.println(sentence + " [" + what + "] answered " + got + ", due is " + want);
        }
    }

    /** A keeper with a node for each sign: s a statement, a an assumption of weight 1. */
    private static AssumptionKeeper keeper(String kinds) {
        AssumptionKeeper keeper = new AssumptionKeeper();
        for (int i = 0; i < kinds.length(); i++) {
            if (kinds.charAt(i) == 'a') {
                keeper.addAssumption(1);
            } else {
                keeper.addStatement();
            }
        }
        return keeper;
    }

    private static AssumptionKeeper weighing(int... weights) {
        AssumptionKeeper keeper = new AssumptionKeeper();
        for (int weight : weights) {
            keeper.addAssumption(weight);
        }
        return keeper;
    }

    private static AssumptionKeeper fortyRules(String kinds) {
        AssumptionKeeper keeper = keeper(kinds);
        for (int rule = 0; rule < 40; rule++) {
            keeper.addRule(1, 1);
        }
        return keeper;
    }

    private static int set(int... members) {
        int set = 0;
        for (int member : members) {
            set |= 1 << member;
        }
        return set;
    }

    /**
     * Nodes 0 to 8 are assumptions; node 23 follows from any four of them, the most that a label can have (126), and
     * node 22 from any five. Nodes 9 to 21 count how many of a group there are at least.
     */
    private static AssumptionKeeper threshold() {
        AssumptionKeeper keeper = keeper("aaaaaaaaasssssssssssssss");
        eitherOf(keeper, 9, set(0), set(1));
        eitherOf(keeper, 10, set(2), set(3));
        eitherOf(keeper, 11, set(9), set(10));
        eitherOf(keeper, 12, set(0, 1), set(9, 10), set(2, 3));
        eitherOf(keeper, 13, set(0, 1, 10), set(9, 2, 3));
        eitherOf(keeper, 14, set(4), set(5));
        eitherOf(keeper, 15, set(6), set(7), set(8));
        eitherOf(keeper, 16, set(6, 7), set(6, 8), set(7, 8));
        eitherOf(keeper, 17, set(14), set(15));
        eitherOf(keeper, 18, set(4, 5), set(14, 15), set(16));
        eitherOf(keeper, 19, set(4, 5, 15), set(14, 16), set(6, 7, 8));
        eitherOf(keeper, 20, set(4, 5, 16), set(14, 6, 7, 8));
        eitherOf(keeper, 23, set(0, 1, 2, 3), set(13, 17), set(12, 18), set(11, 19), set(20));
        eitherOf(keeper, 22, set(0, 1, 2, 3, 17), set(13, 18), set(12, 19), set(11, 20), set(4, 5, 6, 7, 8));
        return keeper;
    }

    private static void eitherOf(AssumptionKeeper keeper, int head, int... bodies) {
        for (int body : bodies) {
            keeper.addRule(body, head);
        }
    }

    private static AssumptionKeeper atMostFour() {
        AssumptionKeeper keeper = threshold();
        keeper.addRule(set(22), -1);
        return keeper;
    }

    /** The environments of this many assumptions of nine, in ascending order. */
    private static List<Integer> environmentsOf(int size) {
        List<Integer> environments = new ArrayList<>();
        for (int env = 0; env < 512; env++) {
            if (Integer.bitCount(env) == size) {
                environments.add(env);
            }
        }
        return environments;
    }

    private static void nodes() {
        test("There are at most 24 nodes, numbered from 0 in the order of their creation.", () -> {
            AssumptionKeeper statements = new AssumptionKeeper();
            AssumptionKeeper both = new AssumptionKeeper();
            for (int i = 0; i < 24; i++) {
                boolean isAssumption = i >= 15;
                due("statement " + i, i, statements::addStatement);
                due("node " + i, i, () -> isAssumption ? both.addAssumption(1) : both.addStatement());
            }
            due("25 statements", STATE, statements::addStatement);
            due("25 nodes", STATE, both::addStatement);
            due("the number of statements", 24, statements::nodeCount);
            due("the number of nodes", 24, both::nodeCount);
            due("a statement as the last node", 23, () -> keeper("aaaaaaaaassssssssssssss").addStatement());
        });
        test("A node is a statement or an assumption.", () -> {
            AssumptionKeeper keeper = keeper("sa");
            due("a statement is no assumption", -1, () -> keeper.assumptionOf(0));
            due("an assumption", 0, () -> keeper.assumptionOf(1));
            due("a statement does not hold by itself", false, () -> keeper.holds(0, 1));
            due("an assumption holds where it is in", true, () -> keeper.holds(1, 1));
        });
        test("At most 9 nodes are assumptions; they are also numbered from 0, in the order of their creation, as"
                + " assumptions", () -> {
                    AssumptionKeeper keeper = keeper("sasasasasasasasasa");
                    due("the tenth", STATE, () -> keeper.addAssumption(1));
                    due("how many", 9, keeper::assumptionCount);
                    for (int i = 0; i < 9; i++) {
                        int assumption = i;
                        due("assumption " + i, 2 * i + 1, () -> keeper.nodeOf(assumption));
                        due("node " + (2 * i + 1), i, () -> keeper.assumptionOf(2 * assumption + 1));
                    }
                    due("a statement behind nine assumptions", 18, keeper::addStatement);
                });
        test("each has a weight from 1 to 100", () -> {
            AssumptionKeeper keeper = weighing(1, 100);
            due("the least", 1, () -> keeper.cost(1));
            due("the greatest", 100, () -> keeper.cost(2));
            due("below the least", ARGUMENT, () -> keeper.addAssumption(0));
            due("above the greatest", ARGUMENT, () -> keeper.addAssumption(101));
            due("set to the greatest", 1, () -> keeper.setWeight(0, 100));
            due("set to the least", 100, () -> keeper.setWeight(1, 1));
            due("set below the least", ARGUMENT, () -> keeper.setWeight(0, 0));
            due("set above the greatest", ARGUMENT, () -> keeper.setWeight(0, 101));
            due("the costs behind that", 101, () -> keeper.cost(3));
        });
    }

    private static void rules() {
        test("There are at most 40 rules, numbered from 0 in the order of their creation.", () -> {
            AssumptionKeeper keeper = keeper("as");
            for (int i = 0; i < 40; i++) {
                due("rule " + i, i, () -> keeper.addRule(1, 1));
            }
            due("the 41st", STATE, () -> keeper.addRule(1, 1));
            due("the last is there", true, () -> keeper.turn(39, true));
            due("the 41st is not", INDEX, () -> keeper.turn(40, true));
            keeper.turn(0, false);
            due("one that is off counts too", STATE, () -> keeper.addRule(1, 1));
            due("one less", 39, keeper::drop);
            due("the last number again", 39, () -> keeper.addRule(1, 1));
        });
        test("A rule has a body, a set of nodes (perhaps empty)", () -> {
            AssumptionKeeper bare = keeper("s");
            due("before", false, () -> bare.holds(0, 0));
            bare.addRule(0, 0);
            due("by the empty body, without assumptions", true, () -> bare.holds(0, 0));
            AssumptionKeeper full = keeper("aaaaaaaaasssssssssssssss");
            for (int node = 9; node < 22; node++) {
                full.addRule(0, node);
            }
            full.addRule((1 << 23) - 1, 23);
            due("a body of 23 with one missing", false, () -> full.holds(23, 511));
            full.addRule(0, 22);
            due("a body of 23", true, () -> full.holds(23, 511));
            due("a body of 23 with an assumption missing", false, () -> full.holds(23, 510));
            full.turn(13, false);
            full.addRule((1 << 24) - 1, 23);
            due("a body of 24, its own head among them", false, () -> full.holds(23, 511));
            full.addRule((1 << 24) - 1, -1);
            due("a body of 24 with one missing", true, () -> full.isConsistent(511));
            full.turn(13, true);
            due("a body of 24", false, () -> full.isConsistent(511));
        });
        test("a head, which is a node (a statement or an assumption), or a contradiction", () -> {
            AssumptionKeeper keeper = keeper("asa");
            keeper.addRule(1, 1);
            keeper.addRule(1, 2);
            due("a statement", true, () -> keeper.holds(1, 1));
            due("an assumption", true, () -> keeper.holds(2, 1));
            due("an assumption is derived", 1, () -> keeper.depth(2, 1));
            due("no contradiction yet", true, () -> keeper.isConsistent(1));
            keeper.addRule(set(1, 2), -1);
            due("a contradiction", false, () -> keeper.isConsistent(1));
            due("a contradiction is no node", 3, () -> keeper.heldCount(1));
        });
        test("A rule is on or off (on, at first); a rule that is off is as if it were not there.", () -> {
            AssumptionKeeper keeper = keeper("as");
            keeper.addRule(1, 1);
            keeper.addRule(2, -1);
            due("the contradiction was on", true, () -> keeper.turn(1, false));
            due("the contradiction is off", true, () -> keeper.isConsistent(1));
            due("no nogood", 0, keeper::nogoodCount);
            due("the world of all", 1, () -> keeper.world(0));
            due("the other one was on", true, () -> keeper.turn(0, false));
            due("does not hold", false, () -> keeper.holds(1, 1));
            due("has no depth", -1, () -> keeper.depth(1, 1));
            due("has no support", -2, () -> keeper.support(1, 1));
            due("is not counted", 1, () -> keeper.heldCount(1));
            due("has an empty label", 0, () -> keeper.labelSize(1));
            keeper.turn(1, true);
            due("on again, but nothing derives its body", true, () -> keeper.isConsistent(1));
            keeper.turn(0, true);
            due("both on again", false, () -> keeper.isConsistent(1));
        });
        test("Sets of nodes are told as the sum of the powers 2^k of the numbers k of their nodes.", () -> {
            AssumptionKeeper keeper = keeper("asssssssssssssssssssssaa");
            keeper.addRule(1, 1);
            keeper.addRule(1 << 23, 2);
            keeper.addRule(1 + (1 << 22), 3);
            due("2^0", true, () -> keeper.holds(1, 1));
            due("2^23", true, () -> keeper.holds(2, 4));
            due("2^0 is not 2^23", false, () -> keeper.holds(2, 1));
            due("2^0 and 2^22", true, () -> keeper.holds(3, 3));
            due("2^0 without 2^22", false, () -> keeper.holds(3, 5));
            due("2^22 without 2^0", false, () -> keeper.holds(3, 2));
        });
    }

    private static void environments() {
        test("An environment is told as the sum of the powers 2^a of the numbers a of its assumptions (as"
                + " assumptions).", () -> {
                    AssumptionKeeper keeper = keeper("sssssssssssssssaaaaaaaaa");
                    due("2^0 is node 15", true, () -> keeper.holds(15, 1));
                    due("2^8 is node 23", true, () -> keeper.holds(23, 256));
                    due("2^0 is nothing else", 1, () -> keeper.heldCount(1));
                    due("2^8 is nothing else", 1, () -> keeper.heldCount(256));
                    due("the empty one", 0, () -> keeper.heldCount(0));
                    due("that of all", 9, () -> keeper.heldCount(511));
                    due("2^9", ARGUMENT, () -> keeper.heldCount(512));
                    due("2^15, a node but no assumption", ARGUMENT, () -> keeper.heldCount(1 << 15));
                });
        test("in round 0 its assumptions; in each further round the heads of those rules whose bodies are contained in"
                + " the nodes of earlier rounds, if they were in no earlier round", () -> {
                    AssumptionKeeper keeper = keeper("asss");
                    keeper.addRule(set(0), 1);
                    keeper.addRule(set(1), 2);
                    keeper.addRule(set(1, 2), 3);
                    keeper.addRule(set(3), 1);
                    keeper.addRule(set(3), 0);
                    int[] depths = {0, 1, 2, 3};
                    for (int i = 0; i < 4; i++) {
                        int node = i;
                        due("the round of " + i, depths[i], () -> keeper.depth(node, 1));
                        due("nothing without the assumption " + i, -1, () -> keeper.depth(node, 0));
                    }
                    due("rules whose number is smaller do not wait", 1, () -> keeper.support(2, 1));
                });
        test("It ends with the first round (but round 0) that has no node.", () -> {
            AssumptionKeeper keeper = keeper("ssa");
            keeper.addRule(0, 0);
            keeper.addRule(1, 1);
            due("round 0 without a node is no end", 2, () -> keeper.depth(1, 0));
            due("both hold in the empty environment", 2, () -> keeper.heldCount(0));
            AssumptionKeeper ring = keeper("ss");
            ring.addRule(1, 1);
            ring.addRule(2, 0);
            due("a ring does not begin", 0, () -> ring.heldCount(0));
            due("nor has it a depth", -1, () -> ring.depth(0, 0));
        });
        test("An environment is inconsistent if the body of a rule whose head is a contradiction is contained in the"
                + " nodes that hold in it; otherwise it is consistent.", () -> {
                    AssumptionKeeper keeper = keeper("aas");
                    due("without a contradiction", true, () -> keeper.isConsistent(3));
                    keeper.addRule(set(0), 2);
                    keeper.addRule(set(1, 2), -1);
                    due("a part of the body", true, () -> keeper.isConsistent(1));
                    due("another part of the body", true, () -> keeper.isConsistent(2));
                    due("the whole body, a part of it derived", false, () -> keeper.isConsistent(3));
                    keeper.addRule(0, -1);
                    due("the empty body", false, () -> keeper.isConsistent(0));
                });
    }

    private static void labelsNogoodsAndWorlds() {
        test("The label of a node is the set of those consistent environments in which it holds and which contain no"
                + " other such environment.", () -> {
                    AssumptionKeeper keeper = keeper("aaas");
                    keeper.addRule(set(0), 3);
                    keeper.addRule(set(0, 1), 3);
                    keeper.addRule(set(1, 2), 3);
                    due("the least ones", 2, () -> keeper.labelSize(3));
                    due("the first", 1, () -> keeper.label(3, 0));
                    due("the second", 6, () -> keeper.label(3, 1));
                    keeper.addRule(set(1, 2), -1);
                    due("no inconsistent one", 1, () -> keeper.labelSize(3));
                    keeper.addRule(set(0), -1);
                    due("all of them inconsistent", 0, () -> keeper.labelSize(3));
                });
        test("The nogoods are the inconsistent environments that contain no other inconsistent one.", () -> {
            AssumptionKeeper keeper = keeper("aaa");
            keeper.addRule(set(0, 1, 2), -1);
            due("that of all", 7, () -> keeper.nogood(0));
            keeper.addRule(set(0, 2), -1);
            due("one that it contains", 5, () -> keeper.nogood(0));
            due("that alone", 1, keeper::nogoodCount);
            keeper.addRule(0, -1);
            due("the empty one", 0, () -> keeper.nogood(0));
            due("the empty one alone", 1, keeper::nogoodCount);
        });
        test("The worlds are the consistent environments that are contained in no other consistent one.", () -> {
            AssumptionKeeper keeper = keeper("aaa");
            due("that of all", 7, () -> keeper.world(0));
            due("that alone", 1, keeper::worldCount);
            for (int node = 0; node < 3; node++) {
                keeper.addRule(set(node), -1);
            }
            due("the empty one", 0, () -> keeper.world(0));
            due("the empty one alone", 1, keeper::worldCount);
            keeper.addRule(0, -1);
            due("none", 0, keeper::worldCount);
        });
        test("The members of a label, the nogoods and the worlds are numbered from 0 in ascending order of the numbers"
                + " that tell them.", () -> {
                    AssumptionKeeper keeper = atMostFour();
                    List<Integer> fours = environmentsOf(4);
                    List<Integer> fives = environmentsOf(5);
                    for (int i = 0; i < 126; i++) {
                        int index = i;
                        due("label " + i, fours.get(i), () -> keeper.label(23, index));
                        due("nogood " + i, fives.get(i), () -> keeper.nogood(index));
                        due("world " + i, fours.get(i), () -> keeper.world(index));
                    }
                    due("beyond the label", INDEX, () -> keeper.label(23, 126));
                    due("beyond the nogoods", INDEX, () -> keeper.nogood(126));
                    due("beyond the worlds", INDEX, () -> keeper.world(126));
                });
        test("The cost of an environment is the sum of the weights of its assumptions.", () -> {
            AssumptionKeeper keeper = weighing(1, 100, 30);
            int[] costs = {0, 1, 100, 101, 30, 31, 130, 131};
            for (int i = 0; i < 8; i++) {
                int env = i;
                due("environment " + i, costs[i], () -> keeper.cost(env));
            }
        });
    }

    private static void promise1() {
        test("1 A new object: Creates a keeper without nodes and rules.", () -> {
            due("nodeCount", 0, () -> new AssumptionKeeper().nodeCount());
            due("assumptionCount", 0, () -> new AssumptionKeeper().assumptionCount());
            due("drop", STATE, () -> new AssumptionKeeper().drop());
            due("turn", INDEX, () -> new AssumptionKeeper().turn(0, true));
            due("assumptionOf", INDEX, () -> new AssumptionKeeper().assumptionOf(0));
            due("nodeOf", INDEX, () -> new AssumptionKeeper().nodeOf(0));
            due("the only environment is consistent", true, () -> new AssumptionKeeper().isConsistent(0));
            due("nothing holds in it", 0, () -> new AssumptionKeeper().heldCount(0));
            due("it costs nothing", 0, () -> new AssumptionKeeper().cost(0));
            due("it can't be made greater", 0, () -> new AssumptionKeeper().extend(0));
            due("no nogood", 0, () -> new AssumptionKeeper().nogoodCount());
            due("one world", 1, () -> new AssumptionKeeper().worldCount());
            due("the empty world", 0, () -> new AssumptionKeeper().world(0));
            due("the first node", 0, () -> new AssumptionKeeper().addStatement());
            due("the first assumption", 0, () -> new AssumptionKeeper().addAssumption(1));
            due("the first rule", 0, () -> new AssumptionKeeper().addRule(0, -1));
        });
    }

    private static void promises2To7() {
        test("2 addStatement: Returns its number as a node.", () -> {
            due("the first", 0, () -> keeper("").addStatement());
            due("the last", 23, () -> keeper("aaaaaaaaassssssssssssss").addStatement());
            due("behind assumptions", 2, () -> keeper("aa").addStatement());
        });
        test("3 addAssumption: Returns its number as a node.", () -> {
            due("the first", 0, () -> keeper("").addAssumption(1));
            due("the last node and the last assumption", 23,
                    () -> keeper("sssssssssssssssaaaaaaaa").addAssumption(100));
            due("the ninth assumption", 8, () -> keeper("aaaaaaaa").addAssumption(1));
            due("its number as a node, not as an assumption", 3, () -> keeper("sas").addAssumption(1));
        });
        test("4 setWeight: Returns the weight before.", () -> {
            AssumptionKeeper keeper = weighing(1, 2, 3, 4, 5, 6, 7, 8, 100);
            due("the first", 1, () -> keeper.setWeight(0, 100));
            due("the last", 100, () -> keeper.setWeight(8, 1));
            due("the first again", 100, () -> keeper.setWeight(0, 100));
            due("the last again", 1, () -> keeper.setWeight(8, 2));
            due("those between are as before", 2 + 3 + 4 + 5 + 6 + 7 + 8, () -> keeper.cost(510 - 256));
            due("all", 100 + 35 + 2, () -> keeper.cost(511));
        });
        test("5 addRule: Adds a rule, which is on. Returns its number.", () -> {
            AssumptionKeeper keeper = keeper("as");
            for (int i = 0; i < 39; i++) {
                keeper.addRule(0, 0);
            }
            due("the last", 39, () -> keeper.addRule(1, 1));
            due("it is on", true, () -> keeper.holds(1, 1));
            due("it was on", true, () -> keeper.turn(39, false));
            keeper.drop();
            due("again", 39, () -> keeper.addRule(1, 1));
            due("on again, though the dropped one was off", true, () -> keeper.turn(39, true));
        });
        test("5 addRule: the node that is its head; -1 for a contradiction", () -> {
            AssumptionKeeper keeper = keeper("sasssssssssssssssssssssa");
            keeper.addRule(set(1), 0);
            keeper.addRule(set(0), 23);
            due("the first node", true, () -> keeper.holds(0, 1));
            due("the last node", true, () -> keeper.holds(23, 1));
            due("no contradiction", true, () -> keeper.isConsistent(1));
            keeper.addRule(set(23), -1);
            due("a contradiction", false, () -> keeper.isConsistent(1));
        });
        test("6 turn: Returns whether it was on before.", () -> {
            AssumptionKeeper keeper = fortyRules("as");
            for (int rule : new int[] {0, 39}) {
                due("on to on, rule " + rule, true, () -> keeper.turn(rule, true));
                due("on to off, rule " + rule, true, () -> keeper.turn(rule, false));
                due("off to off, rule " + rule, false, () -> keeper.turn(rule, false));
            }
            due("one between", 1, () -> keeper.support(1, 1));
            due("off to on", false, () -> keeper.turn(0, true));
            due("the first serves again", 0, () -> keeper.support(1, 1));
        });
        test("7 drop: Removes the rule that was added last. Returns how many are left.", () -> {
            AssumptionKeeper keeper = fortyRules("asa");
            keeper.drop();
            keeper.addRule(4, 1);
            due("the last one serves", true, () -> keeper.holds(1, 2));
            due("of 40", 39, keeper::drop);
            due("the last one serves no more", false, () -> keeper.holds(1, 2));
            due("the others do", true, () -> keeper.holds(1, 1));
            for (int left = 38; left >= 1; left--) {
                due("down to " + left, left, keeper::drop);
            }
            due("the first one still serves", true, () -> keeper.holds(1, 1));
            due("of one", 0, keeper::drop);
            due("none serves", false, () -> keeper.holds(1, 1));
            due("the number of the first is free", 0, () -> keeper.addRule(0, -1));
        });
    }

    private static void promises8To11() {
        test("8 nodeCount: Returns the number of nodes.", () -> {
            due("none", 0, () -> keeper("").nodeCount());
            due("one", 1, () -> keeper("a").nodeCount());
            due("all", 24, () -> keeper("aaaaaaaaasssssssssssssss").nodeCount());
        });
        test("9 assumptionCount: Returns the number of assumptions.", () -> {
            due("none", 0, () -> keeper("").assumptionCount());
            due("none of 24 nodes", 0, () -> keeper("ssssssssssssssssssssssss").assumptionCount());
            due("one", 1, () -> keeper("sas").assumptionCount());
            due("all", 9, () -> keeper("aaaaaaaaasssssssssssssss").assumptionCount());
        });
        test("10 assumptionOf: Returns its number as an assumption; -1 if it is a statement.", () -> {
            AssumptionKeeper ends = keeper("assssssssssssssaaaaaaaas");
            due("the first node, an assumption", 0, () -> ends.assumptionOf(0));
            due("a statement", -1, () -> ends.assumptionOf(1));
            due("the last assumption", 8, () -> ends.assumptionOf(22));
            due("the last node, a statement", -1, () -> ends.assumptionOf(23));
            AssumptionKeeper others = keeper("sssssssssssssssaaaaaaaaa");
            due("the first node, a statement", -1, () -> others.assumptionOf(0));
            due("the first assumption", 0, () -> others.assumptionOf(15));
            due("the last node, an assumption", 8, () -> others.assumptionOf(23));
        });
        test("11 nodeOf: Returns its number as a node.", () -> {
            AssumptionKeeper ends = keeper("assssssssssssssaaaaaaaas");
            due("the first", 0, () -> ends.nodeOf(0));
            due("the second", 15, () -> ends.nodeOf(1));
            due("the last", 22, () -> ends.nodeOf(8));
            AssumptionKeeper others = keeper("sssssssssssssssaaaaaaaaa");
            due("the first, behind all statements", 15, () -> others.nodeOf(0));
            due("the last of all nodes", 23, () -> others.nodeOf(8));
        });
    }

    /** Statement 23 from nothing, each of the others from the one behind it. */
    private static AssumptionKeeper chain() {
        AssumptionKeeper keeper = keeper("ssssssssssssssssssssssss");
        for (int node = 0; node < 23; node++) {
            keeper.addRule(set(node + 1), node);
        }
        keeper.addRule(0, 23);
        return keeper;
    }

    private static void promises12To15() {
        test("12 holds: Returns whether the node holds in it (it may be inconsistent).", () -> {
            AssumptionKeeper keeper = keeper("as");
            keeper.addRule(1, 1);
            keeper.addRule(2, -1);
            due("in an inconsistent one", true, () -> keeper.holds(1, 1));
            due("an assumption in an inconsistent one", true, () -> keeper.holds(0, 1));
            keeper.addRule(0, -1);
            due("not in the empty one, inconsistent too", false, () -> keeper.holds(1, 0));
            due("the end of the longest chain", true, () -> chain().holds(0, 0));
            due("the start of the longest chain", true, () -> chain().holds(23, 0));
        });
        test("13 depth: Returns its depth; -1 if it does not hold in it.", () -> {
            AssumptionKeeper keeper = keeper("as");
            due("an assumption in it", 0, () -> keeper.depth(0, 1));
            due("an assumption not in it", -1, () -> keeper.depth(0, 0));
            due("a statement without a rule", -1, () -> keeper.depth(1, 1));
            keeper.addRule(0, 0);
            due("derived and in it", 0, () -> keeper.depth(0, 1));
            due("derived, not in it", 1, () -> keeper.depth(0, 0));
            keeper.addRule(0, -1);
            due("in an inconsistent one", 0, () -> keeper.depth(0, 1));
            due("the start of the longest chain", 1, () -> chain().depth(23, 0));
            due("the end of the longest chain", 24, () -> chain().depth(0, 0));
        });
        test("14 support: -1 if the depth of the node is 0; -2 if it does not hold in it", () -> {
            AssumptionKeeper keeper = keeper("asa");
            due("depth 0", -1, () -> keeper.support(0, 1));
            due("does not hold", -2, () -> keeper.support(0, 2));
            due("a statement that does not hold", -2, () -> keeper.support(1, 3));
            keeper.addRule(0, 0);
            due("depth 0 in spite of a rule", -1, () -> keeper.support(0, 1));
            due("by the rule alone", 0, () -> keeper.support(0, 0));
        });
        test("14 support: Returns the first rule, in the order of their numbers, that is on, has the node as its head,"
                + " and whose body is contained in the nodes with smaller depths than its own", () -> {
                    AssumptionKeeper keeper = keeper("asss");
                    keeper.addRule(set(2), 1);
                    keeper.addRule(set(1), 1);
                    keeper.addRule(set(0), 3);
                    for (int rule = 3; rule < 38; rule++) {
                        keeper.addRule(set(0), 2);
                    }
                    keeper.addRule(set(0), 1);
                    keeper.addRule(set(0), 1);
                    due("not by the same depth, nor by itself", 38, () -> keeper.support(1, 1));
                    due("the first of many", 3, () -> keeper.support(2, 1));
                    keeper.turn(3, false);
                    due("not one that is off", 4, () -> keeper.support(2, 1));
                    keeper.turn(38, false);
                    due("the last rule of all", 39, () -> keeper.support(1, 1));
                    keeper.turn(39, false);
                    due("then the first rule of all, a depth deeper", 0, () -> keeper.support(1, 1));
                    due("the end of the longest chain", 0, () -> chain().support(0, 0));
                    due("the start of the longest chain", 23, () -> chain().support(23, 0));
                });
        test("15 heldCount: Returns how many nodes hold in it.", () -> {
            due("none of none", 0, () -> keeper("").heldCount(0));
            due("none of 24", 0, () -> keeper("aaaaaaaaasssssssssssssss").heldCount(0));
            due("all of 24, from nothing", 24, () -> chain().heldCount(0));
            due("nine assumptions", 9, () -> keeper("aaaaaaaaasssssssssssssss").heldCount(511));
        });
    }

    private static void promises16To18() {
        test("16 isConsistent: Returns whether it is consistent.", () -> {
            AssumptionKeeper four = atMostFour();
            due("the empty one", true, () -> four.isConsistent(0));
            due("the last four", true, () -> four.isConsistent(set(5, 6, 7, 8)));
            due("the first five", false, () -> four.isConsistent(set(0, 1, 2, 3, 4)));
            due("that of all", false, () -> four.isConsistent(511));
            AssumptionKeeper none = keeper("");
            none.addRule(0, -1);
            due("the only one", false, () -> none.isConsistent(0));
        });
        test("17 cost: Returns its cost.", () -> {
            AssumptionKeeper keeper = weighing(100, 100, 100, 100, 100, 100, 100, 100, 100);
            due("the empty one", 0, () -> keeper.cost(0));
            due("that of all, of the greatest weights", 900, () -> keeper.cost(511));
            due("the first", 100, () -> keeper.cost(1));
            due("the last", 100, () -> keeper.cost(256));
            due("nine of the least weight", 9, () -> keeper("aaaaaaaaa").cost(511));
            keeper.addRule(0, -1);
            due("an inconsistent one", 900, () -> keeper.cost(511));
        });
        test("18 extend: the assumptions that are not in it are taken one after the other", () -> {
            due("none to take, as there is none", 0, () -> keeper("s").extend(0));
            due("none to take, as all are in it", 511, () -> keeper("aaaaaaaaa").extend(511));
            due("all nine", 511, () -> keeper("aaaaaaaaa").extend(0));
            due("the first alone is missing", 511, () -> keeper("aaaaaaaaa").extend(510));
            due("the last alone is missing", 511, () -> keeper("aaaaaaaaa").extend(255));
        });
        test("18 extend: those of greater weight first, of the same weight those with smaller numbers first", () -> {
            due("of the same weight", set(0, 1, 2, 3), () -> atMostFour().extend(0));
            due("of the same weight, the last one in it", set(0, 1, 2, 8), () -> atMostFour().extend(set(8)));
            AssumptionKeeper keeper = atMostFour();
            keeper.setWeight(8, 2);
            due("the last one by its weight", set(0, 1, 2, 8), () -> keeper.extend(0));
            keeper.setWeight(7, 100);
            keeper.setWeight(6, 99);
            keeper.setWeight(5, 2);
            due("the last four by their weights", set(5, 6, 7, 8), () -> keeper.extend(0));
            keeper.setWeight(3, 2);
            due("a smaller number of the same weight", set(3, 5, 6, 7), () -> keeper.extend(0));
        });
        test("18 extend: each is added if the environment that it would make (with those that were added before) is"
                + " consistent", () -> {
                    AssumptionKeeper keeper = weighing(4, 3, 2, 1);
                    keeper.addRule(set(0, 1), -1);
                    keeper.addRule(set(1, 2), -1);
                    due("one that is left out hinders no other", set(0, 2, 3), () -> keeper.extend(0));
                    due("nothing can be added", set(0, 2, 3), () -> keeper.extend(set(0, 2, 3)));
                    due("what is in it hinders", set(1, 3), () -> keeper.extend(set(1)));
                    keeper.addRule(set(3), -1);
                    due("one that contradicts itself", set(0, 2), () -> keeper.extend(0));
                });
    }

    private static void promises19To23() {
        test("19 labelSize: Returns how many environments its label has.", () -> {
            due("none", 0, () -> keeper("s").labelSize(0));
            due("one, an assumption's", 1, () -> keeper("a").labelSize(0));
            due("one, the empty one", 1, () -> chain().labelSize(0));
            due("the most", 126, () -> threshold().labelSize(23));
            due("the most, another way", 126, () -> threshold().labelSize(22));
            due("all of them inconsistent", 0, () -> atMostFour().labelSize(22));
        });
        test("20 label: Returns this environment.", () -> {
            due("the first of the most", 15, () -> threshold().label(23, 0));
            due("the last of the most", 480, () -> threshold().label(23, 125));
            due("beyond the last", INDEX, () -> threshold().label(23, 126));
            due("before the first", INDEX, () -> threshold().label(23, -1));
            due("the empty environment", 0, () -> chain().label(0, 0));
            due("beyond the empty environment", INDEX, () -> chain().label(0, 1));
            due("the first in an empty label", INDEX, () -> keeper("s").label(0, 0));
        });
        test("21 cheapest: Returns the environment of its label with the least cost, of several the one with the"
                + " smallest number that tells it", () -> {
                    due("all cost the same", 15, () -> threshold().cheapest(23));
                    AssumptionKeeper keeper = threshold();
                    for (int assumption = 0; assumption < 5; assumption++) {
                        keeper.setWeight(assumption, 100);
                    }
                    due("the last of the label", set(5, 6, 7, 8), () -> keeper.cheapest(23));
                    due("of several", set(0, 5, 6, 7, 8), () -> keeper.cheapest(22));
                    keeper.setWeight(0, 99);
                    keeper.setWeight(1, 98);
                    due("a little less", set(1, 5, 6, 7, 8), () -> keeper.cheapest(22));
                    due("an assumption", 1, () -> keeper.cheapest(0));
                    due("the empty environment", 0, () -> chain().cheapest(0));
                });
        test("21 cheapest: -1 if its label is empty", () -> {
            due("a statement that never holds", -1, () -> keeper("s").cheapest(0));
            due("all of its environments are inconsistent", -1, () -> atMostFour().cheapest(22));
        });
        test("22 needed: Returns the environment of those assumptions that are in all environments of its label",
                () -> {
                    due("none is in all", 0, () -> threshold().needed(23));
                    due("an assumption", 256, () -> threshold().needed(8));
                    due("the empty environment", 0, () -> chain().needed(0));
                    AssumptionKeeper keeper = keeper("aaas");
                    keeper.addRule(set(0, 2), 3);
                    keeper.addRule(set(1, 2), 3);
                    due("one is in all", 4, () -> keeper.needed(3));
                    keeper.addRule(set(0, 1), 3);
                    due("then none is", 0, () -> keeper.needed(3));
                });
        test("22 needed: that of all assumptions if its label is empty", () -> {
            due("without assumptions", 0, () -> keeper("s").needed(0));
            due("one assumption", 1, () -> keeper("sa").needed(0));
            due("nine assumptions", 511, () -> keeper("aaaaaaaaas").needed(9));
            due("all of its environments are inconsistent", 511, () -> atMostFour().needed(22));
        });
        test("23 useful: Returns the environment of those assumptions that are in some environment of its label.",
                () -> {
                    due("an empty label", 0, () -> keeper("as").useful(1));
                    due("all of its environments are inconsistent", 0, () -> atMostFour().useful(22));
                    due("the empty environment", 0, () -> chain().useful(0));
                    due("all nine", 511, () -> threshold().useful(23));
                    due("the last assumption", 256, () -> threshold().useful(8));
                    due("the first two", 3, () -> threshold().useful(9));
                });
    }

    private static void promises24To28() {
        test("24 nogoodCount: Returns the number of nogoods.", () -> {
            due("none", 0, () -> threshold().nogoodCount());
            due("the most", 126, () -> atMostFour().nogoodCount());
            due("the empty one alone", 1, () -> inconsistent("aaaaaaaaa").nogoodCount());
            due("the empty one, without nodes", 1, () -> inconsistent("").nogoodCount());
        });
        test("25 nogood: Returns this environment.", () -> {
            due("the first of the most", 31, () -> atMostFour().nogood(0));
            due("the last of the most", 496, () -> atMostFour().nogood(125));
            due("beyond the last", INDEX, () -> atMostFour().nogood(126));
            due("before the first", INDEX, () -> atMostFour().nogood(-1));
            due("the empty one", 0, () -> inconsistent("aaaaaaaaa").nogood(0));
            due("the first of none", INDEX, () -> threshold().nogood(0));
        });
        test("26 worldCount: Returns the number of worlds.", () -> {
            due("none", 0, () -> inconsistent("aaaaaaaaa").worldCount());
            due("none, without nodes", 0, () -> inconsistent("").worldCount());
            due("one", 1, () -> threshold().worldCount());
            due("the most", 126, () -> atMostFour().worldCount());
        });
        test("27 world: Returns this environment.", () -> {
            due("that of all", 511, () -> threshold().world(0));
            due("beyond that of all", INDEX, () -> threshold().world(1));
            due("the first of the most", 15, () -> atMostFour().world(0));
            due("the last of the most", 480, () -> atMostFour().world(125));
            due("beyond the last", INDEX, () -> atMostFour().world(126));
            due("before the first", INDEX, () -> atMostFour().world(-1));
            due("the first of none", INDEX, () -> inconsistent("aaaaaaaaa").world(0));
        });
        test("28 worldsWith: Returns in how many worlds it holds.", () -> {
            due("there are none", 0, () -> inconsistent("aaaaaaaaa").worldsWith(8));
            due("in none", 0, () -> atMostFour().worldsWith(22));
            due("in all", 126, () -> atMostFour().worldsWith(23));
            due("the first assumption", 56, () -> atMostFour().worldsWith(0));
            due("the last assumption", 56, () -> atMostFour().worldsWith(8));
            due("in the only one", 1, () -> threshold().worldsWith(22));
            due("in the empty one", 1, () -> chain().worldsWith(0));
        });
    }

    private static AssumptionKeeper inconsistent(String kinds) {
        AssumptionKeeper keeper = keeper(kinds);
        keeper.addRule(0, -1);
        return keeper;
    }

    private static void promises29To31() {
        test("29 belief: Returns the number of consistent environments in which it holds, divided by the number of"
                + " consistent environments", () -> {
                    due("in none of 512", 0.0, () -> keeper("aaaaaaaaas").belief(9));
                    due("in half of 512", 0.5, () -> keeper("aaaaaaaaas").belief(8));
                    due("in all of one", 1.0, () -> chain().belief(0));
                    due("in none of one", 0.0, () -> keeper("s").belief(0));
                    due("in 126 of 256", 126.0 / 256.0, () -> atMostFour().belief(23));
                    due("in none of 256", 0.0, () -> atMostFour().belief(22));
                    due("no whole numbers", 1.0 / 3.0, () -> twoThatExclude().belief(0));
                });
        test("29 belief: 0 if there are none", () -> {
            due("a statement", 0.0, () -> inconsistent("s").belief(0));
            due("an assumption", 0.0, () -> inconsistent("aaaaaaaaa").belief(8));
            AssumptionKeeper keeper = chain();
            keeper.addRule(0, -1);
            due("what follows from nothing", 0.0, () -> keeper.belief(0));
        });
        test("30 implies: Returns whether b holds in each consistent environment in which a holds.", () -> {
            due("the last from the last but one", true, () -> threshold().implies(22, 23));
            due("not the other way", false, () -> threshold().implies(23, 22));
            due("itself", true, () -> threshold().implies(0, 0));
            due("a holds in no consistent one", true, () -> atMostFour().implies(22, 21));
            due("b holds in no consistent one", false, () -> atMostFour().implies(23, 22));
            due("neither holds in one", true, () -> atMostFour().implies(21, 22));
            due("there is no consistent one", true, () -> inconsistent("as").implies(0, 1));
            due("in the empty one", true, () -> chain().implies(23, 0));
        });
        test("31 excludes: Returns whether there is no consistent environment in which both hold.", () -> {
            due("two assumptions", true, () -> twoThatExclude().excludes(0, 1));
            due("in that of all alone", false, () -> keeper("aaaaaaaaa").excludes(0, 8));
            due("itself", false, () -> keeper("a").excludes(0, 0));
            due("a statement that never holds, itself", true, () -> keeper("s").excludes(0, 0));
            due("only in inconsistent ones", true, () -> atMostFour().excludes(22, 23));
            due("there is no consistent one", true, () -> inconsistent("as").excludes(0, 0));
            due("in the empty one", false, () -> chain().excludes(0, 23));
        });
    }

    private static AssumptionKeeper twoThatExclude() {
        AssumptionKeeper keeper = keeper("aa");
        keeper.addRule(3, -1);
        return keeper;
    }

    /** The checksum without any limit on its size, brought to 64 bits at the very end. */
    private static long wrappedDigest(List<Integer> numbers) {
        BigInteger d = BigInteger.valueOf(113);
        for (int x : numbers) {
            d = d.multiply(BigInteger.valueOf(31)).add(BigInteger.valueOf(x));
        }
        return d.longValue();
    }

    private static void promise32() {
        test("32 digest: d becomes d * 31 + x, which wraps around as a 64-bit integer", () -> {
            due("six numbers", 113L * 31 * 31 * 31 * 31 * 31 * 31 + 31, () -> new AssumptionKeeper().digest());
            List<Integer> eleven = List.of(1, -1, 0, 0, 1, 0, -1, 1, 1, 0, 0);
            due("eleven numbers", wrappedDigest(eleven), () -> inconsistent("s").digest());
            due("twelve numbers wrap around", wrappedDigest(List.of(3, -1, 0, -1, 0, -1, 0, 0, 0, 0, 1, 0)),
                    () -> keeper("sss").digest());
            due("many numbers", wrappedDigest(numbersOfAtMostFour()), () -> atMostFour().digest());
        });
        test("32 digest: the number of nodes, and for each of them its number as an assumption (-1 for a statement),"
                + " the size of its label, and its environments; ... its head (-1 for a contradiction), and 1 if it is"
                + " on, else 0", () -> {
                    AssumptionKeeper keeper = weighing(100);
                    keeper.addStatement();
                    keeper.addRule(0, 1);
                    keeper.addRule(3, -1);
                    keeper.addRule(1, 0);
                    keeper.turn(2, false);
                    due("all kinds", wrappedDigest(List.of(2, 0, 0, -1, 1, 0, 1, 100,
                            3, 0, 1, 1, 3, -1, 1, 1, 0, 0, 1, 1, 1, 0)), keeper::digest);
                    keeper.addRule(0, -1);
                    due("nothing is consistent", wrappedDigest(List.of(2, 0, 0, -1, 0, 1, 100,
                            4, 0, 1, 1, 3, -1, 1, 1, 0, 0, 0, -1, 1, 1, 0, 0)), keeper::digest);
                });
    }

    /** What the digest of the keeper with the longest label, nogoods and worlds is made of. */
    private static List<Integer> numbersOfAtMostFour() {
        List<Integer> numbers = new ArrayList<>(List.of(24));
        for (int node = 0; node < 24; node++) {
            AssumptionKeeper keeper = atMostFour();
            numbers.add(keeper.assumptionOf(node));
            int size = keeper.labelSize(node);
            numbers.add(size);
            for (int index = 0; index < size; index++) {
                numbers.add(keeper.label(node, index));
            }
        }
        numbers.addAll(List.of(9, 1, 1, 1, 1, 1, 1, 1, 1, 1));
        numbers.addAll(rulesOfAtMostFour());
        numbers.add(126);
        numbers.addAll(environmentsOf(5));
        numbers.add(126);
        numbers.addAll(environmentsOf(4));
        return numbers;
    }

    private static List<Integer> rulesOfAtMostFour() {
        int[][] rules = {
            {9, set(0), set(1)}, {10, set(2), set(3)}, {11, set(9), set(10)},
            {12, set(0, 1), set(9, 10), set(2, 3)}, {13, set(0, 1, 10), set(9, 2, 3)},
            {14, set(4), set(5)}, {15, set(6), set(7), set(8)}, {16, set(6, 7), set(6, 8), set(7, 8)},
            {17, set(14), set(15)}, {18, set(4, 5), set(14, 15), set(16)},
            {19, set(4, 5, 15), set(14, 16), set(6, 7, 8)}, {20, set(4, 5, 16), set(14, 6, 7, 8)},
            {23, set(0, 1, 2, 3), set(13, 17), set(12, 18), set(11, 19), set(20)},
            {22, set(0, 1, 2, 3, 17), set(13, 18), set(12, 19), set(11, 20), set(4, 5, 6, 7, 8)},
            {-1, set(22)}};
        List<Integer> numbers = new ArrayList<>(List.of(40));
        for (int[] rule : rules) {
            for (int i = 1; i < rule.length; i++) {
                numbers.addAll(List.of(rule[i], rule[0], 1));
            }
        }
        return numbers;
    }

    /** Brings a keeper to its 511th call, with changes that are taken back, questions and a refused call. */
    private static AssumptionKeeper worn(AssumptionKeeper keeper, int callsBefore) {
        int calls = callsBefore;
        while (calls + 6 <= 511) {
            int rule = keeper.addRule(0, -1);
            keeper.worldCount();
            keeper.turn(rule, false);
            keeper.digest();
            keeper.drop();
            due("a refused call on the way", ARGUMENT, () -> keeper.addAssumption(0));
            calls += 6;
        }
        while (calls < 511) {
            keeper.nodeCount();
            calls++;
        }
        return keeper;
    }

    private static AssumptionKeeper wornThreshold() {
        return worn(threshold(), 24 + 39);
    }

    private static AssumptionKeeper wornNodes(String kinds) {
        return worn(keeper(kinds), kinds.length());
    }

    private static void lastCallThatChanges() {
        due("addStatement", 23, () -> wornNodes("sssssssssssssssaaaaaaaa").addStatement());
        due("addAssumption", 23, () -> wornNodes("sssssssssssssssaaaaaaaa").addAssumption(100));
        due("setWeight", 1, () -> wornThreshold().setWeight(8, 100));
        due("addRule", 39, () -> wornThreshold().addRule(0, -1));
        due("turn", true, () -> wornThreshold().turn(38, false));
        due("drop", 38, () -> wornThreshold().drop());
        due("addStatement, refused", STATE, () -> wornThreshold().addStatement());
        due("addAssumption, refused", STATE, () -> wornThreshold().addAssumption(1));
        due("setWeight, refused", INDEX, () -> wornThreshold().setWeight(9, 1));
        due("addRule, refused", INDEX, () -> wornThreshold().addRule(0, 24));
        due("turn, refused", INDEX, () -> wornThreshold().turn(39, false));
        due("drop, refused", STATE, () -> wornNodes("a").drop());
    }

    private static void lastCallThatAsks() {
        due("nodeCount", 24, () -> wornThreshold().nodeCount());
        due("assumptionCount", 9, () -> wornThreshold().assumptionCount());
        due("assumptionOf", 8, () -> wornThreshold().assumptionOf(8));
        due("nodeOf", 8, () -> wornThreshold().nodeOf(8));
        due("holds", true, () -> wornThreshold().holds(23, 480));
        due("depth", 3, () -> wornThreshold().depth(23, 480));
        due("support", 33, () -> wornThreshold().support(23, 480));
        due("heldCount", 12, () -> wornThreshold().heldCount(480));
        due("isConsistent", true, () -> wornThreshold().isConsistent(511));
        due("cost", 9, () -> wornThreshold().cost(511));
        due("extend", 511, () -> wornThreshold().extend(0));
        due("labelSize", 126, () -> wornThreshold().labelSize(23));
        due("label", 480, () -> wornThreshold().label(23, 125));
        due("label, refused", INDEX, () -> wornThreshold().label(23, 126));
        due("cheapest", 15, () -> wornThreshold().cheapest(23));
        due("needed", 256, () -> wornThreshold().needed(8));
        due("useful", 511, () -> wornThreshold().useful(23));
        due("nogoodCount", 0, () -> wornThreshold().nogoodCount());
        due("nogood", INDEX, () -> wornThreshold().nogood(0));
        due("worldCount", 1, () -> wornThreshold().worldCount());
        due("world", 511, () -> wornThreshold().world(0));
        due("worldsWith", 1, () -> wornThreshold().worldsWith(23));
        due("belief", 0.5, () -> wornThreshold().belief(22));
        due("implies", true, () -> wornThreshold().implies(22, 23));
        due("excludes", true, () -> wornThreshold().excludes(21, 23));
        due("digest", threshold().digest(), () -> wornThreshold().digest());
    }

    private static void lastCall() {
        test("An object is used for at most 512 calls after it has been made: the 512th changes",
                AssumptionKeeperEdges::lastCallThatChanges);
        test("An object is used for at most 512 calls after it has been made: the 512th asks",
                AssumptionKeeperEdges::lastCallThatAsks);
    }

    public static void main(String[] args) {
        nodes();
        rules();
        environments();
        labelsNogoodsAndWorlds();
        promise1();
        promises2To7();
        promises8To11();
        promises12To15();
        promises16To18();
        promises19To23();
        promises24To28();
        promises29To31();
        promise32();
        lastCall();
        if (wrong > 0) {
            System.exit(1);
        }
    }
}
