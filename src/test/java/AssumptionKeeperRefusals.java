import java.util.ArrayList;
import java.util.LinkedHashSet;
import java.util.List;
import java.util.Set;
import java.util.function.Supplier;

/**
 * Each sentence of the document that begins with "Throws" has a test of its own, and so has the order in which a
 * method names its exceptions. A test tries the first and the last number that is allowed and those beyond them on
 * both sides, and compares the keeper behind a refused call, answer by answer, with a twin that did not see the call.
 */
public final class AssumptionKeeperRefusals {
    private static final String INDEX = "throws.IndexOutOfBoundsException";
    private static final String ARGUMENT = "throws.IllegalArgumentException";
    private static final String STATE = "throws.IllegalStateException";

    private static int wrong = 0;
    private static String sentence = "";

    private interface Call {
        Object on(AssumptionKeeper keeper);
    }

    private interface NumberCall {
        Object on(AssumptionKeeper keeper, int number);
    }

    private interface TwoNumbersCall {
        Object on(AssumptionKeeper keeper, int first, int second);
    }

    /** A keeper that can be made again and again, with what it has. */
    private static final class Ground {
        final String name;
        final int nodes;
        final int assumptions;
        final int rules;
        final Supplier<AssumptionKeeper> maker;
        private List<String> answers;

        Ground(String name, int nodes, int assumptions, int rules, Supplier<AssumptionKeeper> maker) {
            this.name = name;
            this.nodes = nodes;
            this.assumptions = assumptions;
            this.rules = rules;
            this.maker = maker;
        }

        /** What the twin answers; asked for late, so that a keeper that can't be made fails the test that uses it. */
        List<String> answers() {
            if (answers == null) {
                answers = allAnswersOf(maker.get());
            }
            return answers;
        }
    }

    private static final Ground EMPTY = new Ground("empty", 0, 0, 0, AssumptionKeeper::new);
    private static final Ground ONE_STATEMENT = new Ground("one statement", 1, 0, 0, () -> keeper("s"));
    private static final Ground ONE_ASSUMPTION = new Ground("one assumption", 1, 1, 0, () -> keeper("a"));
    private static final Ground MIXED = new Ground("mixed", 6, 3, 5, AssumptionKeeperRefusals::mixed);
    private static final Ground TWO_BELOW = new Ground("23 nodes, 8 assumptions", 23, 8, 39,
            () -> ruled(keeper("sssssssssssssssaaaaaaaa"), 39));
    private static final Ground NINE = new Ground("9 assumptions alone", 9, 9, 0, () -> keeper("aaaaaaaaa"));
    private static final Ground STATEMENTS = new Ground("24 statements", 24, 0, 40,
            () -> ruled(keeper("ssssssssssssssssssssssss"), 40));
    private static final Ground FULL = new Ground("24 nodes, 9 assumptions, 40 rules", 24, 9, 40,
            () -> ruled(keeper("sasasasasasasasasassssss"), 40));
    private static final Ground BROKEN = new Ground("nothing consistent", 6, 3, 6, () -> broken(mixed()));
    private static final Ground PAIRS = new Ground("a label of 36", 10, 9, 36, AssumptionKeeperRefusals::pairs);
    private static final Ground NO_PAIRS = new Ground("36 nogoods and 9 worlds", 10, 9, 37,
            AssumptionKeeperRefusals::noPairs);
    private static final Ground[] GROUNDS = {EMPTY, ONE_STATEMENT, ONE_ASSUMPTION, MIXED, TWO_BELOW, NINE, STATEMENTS,
        FULL, BROKEN, PAIRS, NO_PAIRS};

    /** A keeper with a node for each sign: s a statement, a an assumption. */
    private static AssumptionKeeper keeper(String kinds) {
        AssumptionKeeper keeper = new AssumptionKeeper();
        for (int i = 0; i < kinds.length(); i++) {
            if (kinds.charAt(i) == 'a') {
                keeper.addAssumption(10 + i);
            } else {
                keeper.addStatement();
            }
        }
        return keeper;
    }

    /** Rules from each node to another one, a contradiction among them, the last rule off. */
    private static AssumptionKeeper ruled(AssumptionKeeper keeper, int rules) {
        int nodes = keeper.nodeCount();
        for (int rule = 0; rule < rules; rule++) {
            int body = 1 << rule % nodes | 1 << rule * 5 % nodes;
            keeper.addRule(body, rule == 7 ? -1 : rule * 11 % nodes);
        }
        keeper.turn(rules - 1, false);
        return keeper;
    }

    private static AssumptionKeeper mixed() {
        AssumptionKeeper keeper = keeper("sasaas");
        keeper.addRule(2, 0);
        keeper.addRule(8 + 16, 0);
        keeper.addRule(1, 2);
        keeper.addRule(4, 5);
        keeper.addRule(2 + 16, -1);
        return keeper;
    }

    /** The statement 9 follows from any two of nine assumptions. */
    private static AssumptionKeeper pairs() {
        AssumptionKeeper keeper = keeper("aaaaaaaaas");
        for (int first = 0; first < 9; first++) {
            for (int second = 0; second < first; second++) {
                keeper.addRule(1 << first | 1 << second, 9);
            }
        }
        return keeper;
    }

    private static AssumptionKeeper noPairs() {
        AssumptionKeeper keeper = pairs();
        keeper.addRule(1 << 9, -1);
        return keeper;
    }

    private static AssumptionKeeper broken(AssumptionKeeper keeper) {
        keeper.addRule(0, -1);
        return keeper;
    }

    private static String answer(AssumptionKeeper keeper, Call call) {
        try {
            return String.valueOf(call.on(keeper));
        } catch (RuntimeException e) {
            return "throws." + e.getClass().getSimpleName();
        }
    }

    private static String answers(String what, AssumptionKeeper keeper, Call... calls) {
        StringBuilder text = new StringBuilder(what);
        for (Call call : calls) {
            text.append(' ').append(answer(keeper, call));
        }
        return text.toString();
    }

    /** What a keeper answers, at most some 350 calls; those that change it come last. */
    private static List<String> allAnswersOf(AssumptionKeeper keeper) {
        List<String> answers = new ArrayList<>();
        answers.add(answers("counts", keeper, k -> k.nodeCount(), k -> k.assumptionCount(), k -> k.nogoodCount(),
                k -> k.worldCount(), k -> k.digest()));
        int nodes = keeper.nodeCount();
        for (int i = 0; i < nodes; i++) {
            int node = i;
            answers.add(answers("node " + node, keeper, k -> k.assumptionOf(node), k -> k.labelSize(node),
                    k -> k.cheapest(node), k -> k.needed(node), k -> k.useful(node), k -> k.worldsWith(node),
                    k -> k.belief(node)));
        }
        int assumptions = keeper.assumptionCount();
        for (int i = 0; i < assumptions; i++) {
            int assumption = i;
            int env = 1 << assumption;
            answers.add(answers("assumption " + assumption, keeper, k -> k.nodeOf(assumption), k -> k.cost(env),
                    k -> k.heldCount(env), k -> k.isConsistent(env), k -> k.extend(env)));
        }
        for (int i = 0; i < 40; i++) {
            int rule = i;
            answers.add(answers("turn " + rule, keeper, k -> k.turn(rule, true)));
        }
        answers.add(answers("all rules on, a rule and two nodes more", keeper, k -> k.digest(),
                k -> k.addAssumption(10), k -> k.addStatement(), k -> k.addRule(0, -1)));
        for (int i = 0; i < 41; i++) {
            answers.add(answers("drop", keeper, k -> k.drop()));
        }
        answers.add(answers("without rules", keeper, k -> k.digest()));
        return answers;
    }

    private static void complain(String what) {
        wrong++;
        System.out.println(sentence + " " + what);
    }

    private static void complain(Ground ground, String what) {
        complain("[" + ground.name + "] " + what);
    }

    private static void due(Ground ground, String what, String want, String got) {
        if (!want.equals(got)) {
            complain(ground, what + " answered " + got + ", due is " + want);
        }
    }

    /** The call throws this exception, and leaves what was there, whether or not it had been asked for before. */
    private static void refused(String exception, Ground ground, String what, Call call) {
        AssumptionKeeper asked = ground.maker.get();
        asked.digest();
        for (AssumptionKeeper keeper : new AssumptionKeeper[] {ground.maker.get(), asked}) {
            due(ground, what, exception, answer(keeper, call));
            List<String> before = ground.answers();
            List<String> behind = allAnswersOf(keeper);
            for (int i = 0; i < behind.size() && i < before.size(); i++) {
                due(ground, "behind " + what + " the keeper", before.get(i), behind.get(i));
            }
            if (behind.size() != before.size()) {
                complain(ground, "behind " + what + " the keeper has other nodes");
            }
        }
    }

    private static void allowed(Ground ground, String what, Call call) {
        String got = answer(ground.maker.get(), call);
        if (got.startsWith("throws.")) {
            complain(ground, what + " answered " + got + ", but is allowed");
        }
    }

    /** Numbers that are none of 0 to count - 1, those among them that a shift would take for one of these. */
    private static Set<Integer> beyond(int count) {
        Set<Integer> numbers = new LinkedHashSet<>();
        for (int number : new int[] {-1, count, -2, count + 1, 9, 24, 32, 64, -32, 256, 40, 126, 512,
                Integer.MIN_VALUE, Integer.MAX_VALUE}) {
            if (number < 0 || number >= count) {
                numbers.add(number);
            }
        }
        return numbers;
    }

    /** Numbers that tell no set of 0 to count - 1, alone or together with members that there are. */
    private static Set<Integer> noSets(int count) {
        Set<Integer> numbers = new LinkedHashSet<>();
        int all = (1 << count) - 1;
        numbers.add(all + 1);
        numbers.add(all + 1 + all);
        numbers.add(-1);
        numbers.add(-(all + 1));
        numbers.add(1 << 24);
        numbers.add(1 << 30);
        numbers.add(Integer.MIN_VALUE);
        numbers.add(Integer.MIN_VALUE + all);
        numbers.add(Integer.MAX_VALUE);
        return numbers;
    }

    private static void refusesNodes(NumberCall call) {
        for (Ground ground : GROUNDS) {
            for (int node : beyond(ground.nodes)) {
                refused(INDEX, ground, "node " + node, k -> call.on(k, node));
            }
            if (ground.nodes > 0) {
                allowed(ground, "node 0", k -> call.on(k, 0));
                allowed(ground, "node " + (ground.nodes - 1), k -> call.on(k, ground.nodes - 1));
            }
        }
    }

    private static void refusesAssumptions(NumberCall call) {
        for (Ground ground : GROUNDS) {
            for (int assumption : beyond(ground.assumptions)) {
                refused(INDEX, ground, "assumption " + assumption, k -> call.on(k, assumption));
            }
            if (ground.assumptions > 0) {
                allowed(ground, "assumption 0", k -> call.on(k, 0));
                allowed(ground, "assumption " + (ground.assumptions - 1), k -> call.on(k, ground.assumptions - 1));
            }
        }
    }

    private static void refusesEnvironments(Ground[] grounds, NumberCall call) {
        for (Ground ground : grounds) {
            for (int env : noSets(ground.assumptions)) {
                refused(ARGUMENT, ground, "env " + env, k -> call.on(k, env));
            }
        }
    }

    private static void allowsEnvironments(Ground[] grounds, NumberCall call) {
        for (Ground ground : grounds) {
            int all = (1 << ground.assumptions) - 1;
            allowed(ground, "env 0", k -> call.on(k, 0));
            allowed(ground, "env " + all, k -> call.on(k, all));
        }
    }

    private static void refusesWeights(Ground ground, NumberCall call) {
        for (int weight : new int[] {0, 101, -1, 102, -100, 256 + 1, Integer.MIN_VALUE, Integer.MAX_VALUE}) {
            refused(ARGUMENT, ground, "weight " + weight, k -> call.on(k, weight));
        }
    }

    private static void allowsWeights(Ground ground, NumberCall call) {
        for (int weight : new int[] {1, 2, 99, 100}) {
            allowed(ground, "weight " + weight, k -> call.on(k, weight));
        }
    }

    private static void test(String quoted, Runnable body) {
        sentence = quoted;
        try {
            body.run();
        } catch (RuntimeException e) {
            complain("could not be tried: " + e);
        }
    }

    private static void promise2() {
        test("2 addStatement: Throws `IllegalStateException` if there are 24 nodes", () -> {
            refused(STATE, STATEMENTS, "addStatement", AssumptionKeeper::addStatement);
            refused(STATE, FULL, "addStatement", AssumptionKeeper::addStatement);
            allowed(TWO_BELOW, "the 24th node", AssumptionKeeper::addStatement);
            allowed(EMPTY, "the first node", AssumptionKeeper::addStatement);
            allowed(NINE, "a statement behind 9 assumptions", AssumptionKeeper::addStatement);
        });
    }

    private static void promise3() {
        test("3 addAssumption: Throws `IllegalArgumentException` if weight is not 1 to 100", () -> {
            for (Ground ground : GROUNDS) {
                refusesWeights(ground, AssumptionKeeper::addAssumption);
            }
            allowsWeights(EMPTY, AssumptionKeeper::addAssumption);
            allowsWeights(TWO_BELOW, AssumptionKeeper::addAssumption);
        });
        test("3 addAssumption: Throws `IllegalStateException` if there are 24 nodes or 9 assumptions", () -> {
            for (int weight : new int[] {1, 50, 100}) {
                refused(STATE, STATEMENTS, "24 nodes", k -> k.addAssumption(weight));
                refused(STATE, NINE, "9 assumptions", k -> k.addAssumption(weight));
                refused(STATE, FULL, "24 nodes and 9 assumptions", k -> k.addAssumption(weight));
                allowed(TWO_BELOW, "the 24th node and the 9th assumption", k -> k.addAssumption(weight));
                allowed(EMPTY, "the first node and assumption", k -> k.addAssumption(weight));
            }
        });
        test("3 addAssumption: the weight is named before the 24 nodes and the 9 assumptions", () -> {
            refusesWeights(STATEMENTS, AssumptionKeeper::addAssumption);
            refusesWeights(NINE, AssumptionKeeper::addAssumption);
            refusesWeights(FULL, AssumptionKeeper::addAssumption);
        });
    }

    private static void promise4() {
        test("4 setWeight: Throws `IndexOutOfBoundsException` if there is no such assumption",
                () -> refusesAssumptions((k, assumption) -> k.setWeight(assumption, 50)));
        test("4 setWeight: Throws `IllegalArgumentException` if weight is not 1 to 100", () -> {
            for (Ground ground : new Ground[] {ONE_ASSUMPTION, MIXED, NINE, FULL, BROKEN}) {
                refusesWeights(ground, (k, weight) -> k.setWeight(0, weight));
                refusesWeights(ground, (k, weight) -> k.setWeight(ground.assumptions - 1, weight));
                allowsWeights(ground, (k, weight) -> k.setWeight(0, weight));
                allowsWeights(ground, (k, weight) -> k.setWeight(ground.assumptions - 1, weight));
            }
        });
        test("4 setWeight: the assumption is named before the weight", () -> {
            for (Ground ground : GROUNDS) {
                for (int weight : new int[] {0, 101, Integer.MIN_VALUE}) {
                    refused(INDEX, ground, "-1, weight " + weight, k -> k.setWeight(-1, weight));
                    refused(INDEX, ground, "one too many, weight " + weight,
                            k -> k.setWeight(ground.assumptions, weight));
                }
            }
        });
    }

    private static void promise5() {
        Ground[] withRoom = {EMPTY, ONE_STATEMENT, ONE_ASSUMPTION, MIXED, TWO_BELOW, NINE, BROKEN};
        test("5 addRule: Throws `IllegalArgumentException` if body contains something that is no node", () -> {
            for (Ground ground : GROUNDS) {
                for (int body : noSets(ground.nodes)) {
                    refused(ARGUMENT, ground, "body " + body, k -> k.addRule(body, -1));
                }
            }
            for (Ground ground : withRoom) {
                allowed(ground, "the empty body", k -> k.addRule(0, -1));
                allowed(ground, "the body of all", k -> k.addRule((1 << ground.nodes) - 1, -1));
            }
        });
        test("5 addRule: Throws `IndexOutOfBoundsException` if head is not -1 and there is no such node", () -> {
            for (Ground ground : GROUNDS) {
                for (int head : beyond(ground.nodes)) {
                    if (head != -1) {
                        refused(INDEX, ground, "head " + head, k -> k.addRule(0, head));
                    }
                }
            }
            for (Ground ground : withRoom) {
                allowed(ground, "head -1", k -> k.addRule(0, -1));
                if (ground.nodes > 0) {
                    allowed(ground, "head 0", k -> k.addRule(0, 0));
                    allowed(ground, "the last head", k -> k.addRule(0, ground.nodes - 1));
                }
            }
        });
        test("5 addRule: Throws `IllegalStateException` if there are 40 rules", () -> {
            for (Ground ground : new Ground[] {STATEMENTS, FULL}) {
                refused(STATE, ground, "a contradiction", k -> k.addRule(0, -1));
                refused(STATE, ground, "a node as head", k -> k.addRule(1, 23));
                refused(STATE, ground, "a rule that is there already", k -> k.addRule(1, 0));
                allowed(ground, "one for a dropped one", k -> k.drop() + k.addRule(0, -1));
            }
            allowed(TWO_BELOW, "the 40th", k -> k.addRule(0, -1));
            allowed(EMPTY, "the first", k -> k.addRule(0, -1));
        });
    }

    private static void promise5Order() {
        test("5 addRule: the body is named before the head", () -> {
            for (Ground ground : GROUNDS) {
                refused(ARGUMENT, ground, "body and head -2", k -> k.addRule(1 << ground.nodes, -2));
                refused(ARGUMENT, ground, "body and head", k -> k.addRule(-1, ground.nodes));
            }
        });
        test("5 addRule: the body is named before the 40 rules", () -> {
            refused(ARGUMENT, STATEMENTS, "body", k -> k.addRule(1 << 24, 0));
            refused(ARGUMENT, FULL, "body", k -> k.addRule(-1, -1));
        });
        test("5 addRule: the head is named before the 40 rules", () -> {
            refused(INDEX, STATEMENTS, "head", k -> k.addRule(0, 24));
            refused(INDEX, FULL, "head -2", k -> k.addRule(0, -2));
        });
        test("5 addRule: the body is named before the head and the 40 rules", () -> {
            refused(ARGUMENT, STATEMENTS, "body and head", k -> k.addRule(1 << 24, 24));
            refused(ARGUMENT, FULL, "body and head -2", k -> k.addRule(-1, -2));
        });
    }

    private static void promises6And7() {
        test("6 turn: Throws `IndexOutOfBoundsException` if there is no such rule", () -> {
            for (Ground ground : GROUNDS) {
                for (int rule : beyond(ground.rules)) {
                    refused(INDEX, ground, "rule " + rule + " off", k -> k.turn(rule, false));
                    refused(INDEX, ground, "rule " + rule + " on", k -> k.turn(rule, true));
                }
                if (ground.rules > 0) {
                    allowed(ground, "rule 0", k -> k.turn(0, false));
                    allowed(ground, "the last rule", k -> k.turn(ground.rules - 1, true));
                }
            }
            Ground dropped = new Ground("one rule dropped", 6, 3, 4, () -> without(mixed(), 1));
            refused(INDEX, dropped, "the dropped rule", k -> k.turn(4, true));
        });
        test("7 drop: Throws `IllegalStateException` if there is none", () -> {
            for (Ground ground : new Ground[] {EMPTY, ONE_STATEMENT, ONE_ASSUMPTION, NINE}) {
                refused(STATE, ground, "drop", AssumptionKeeper::drop);
            }
            Ground emptied = new Ground("all rules dropped", 6, 3, 0, () -> without(mixed(), 5));
            refused(STATE, emptied, "drop", AssumptionKeeper::drop);
            allowed(MIXED, "the last one", k -> without(k, 4).drop());
            allowed(FULL, "one of 40", AssumptionKeeper::drop);
        });
    }

    private static AssumptionKeeper without(AssumptionKeeper keeper, int drops) {
        for (int i = 0; i < drops; i++) {
            keeper.drop();
        }
        return keeper;
    }

    private static void promises10And11() {
        test("10 assumptionOf: Throws `IndexOutOfBoundsException` if there is no such node",
                () -> refusesNodes(AssumptionKeeper::assumptionOf));
        test("11 nodeOf: Throws `IndexOutOfBoundsException` if there is no such assumption",
                () -> refusesAssumptions(AssumptionKeeper::nodeOf));
    }

    private static void nodeAndEnvironment(String method, TwoNumbersCall call) {
        test(method + ": Throws `IndexOutOfBoundsException` if there is no such node",
                () -> refusesNodes((k, node) -> call.on(k, node, 0)));
        test(method + ": Throws `IllegalArgumentException` if env is no environment of the assumptions that there are",
                () -> {
                    Ground[] withNodes = {ONE_STATEMENT, ONE_ASSUMPTION, MIXED, TWO_BELOW, NINE, STATEMENTS, FULL,
                        BROKEN};
                    refusesEnvironments(withNodes, (k, env) -> call.on(k, 0, env));
                    refusesEnvironments(withNodes, (k, env) -> call.on(k, k.nodeCount() - 1, env));
                    allowsEnvironments(withNodes, (k, env) -> call.on(k, 0, env));
                });
        test(method + ": the node is named before the environment", () -> {
            for (Ground ground : GROUNDS) {
                for (int env : noSets(ground.assumptions)) {
                    refused(INDEX, ground, "node -1, env " + env, k -> call.on(k, -1, env));
                    refused(INDEX, ground, "one node too many, env " + env, k -> call.on(k, ground.nodes, env));
                }
            }
        });
    }

    private static void promises12To14() {
        nodeAndEnvironment("12 holds", AssumptionKeeper::holds);
        nodeAndEnvironment("13 depth", AssumptionKeeper::depth);
        nodeAndEnvironment("14 support", AssumptionKeeper::support);
    }

    private static void environmentAlone(String method, NumberCall call) {
        test(method + ": Throws `IllegalArgumentException` if env is no environment of the assumptions that there are",
                () -> {
                    refusesEnvironments(GROUNDS, call);
                    allowsEnvironments(GROUNDS, call);
                });
    }

    private static void promises15To17() {
        environmentAlone("15 heldCount", AssumptionKeeper::heldCount);
        environmentAlone("16 isConsistent", AssumptionKeeper::isConsistent);
        environmentAlone("17 cost", AssumptionKeeper::cost);
    }

    private static void promise18() {
        test("18 extend: Throws `IllegalArgumentException` if env is no environment of the assumptions that there are",
                () -> {
                    refusesEnvironments(GROUNDS, AssumptionKeeper::extend);
                    allowsEnvironments(new Ground[] {EMPTY, ONE_STATEMENT, ONE_ASSUMPTION, NINE},
                            AssumptionKeeper::extend);
                });
        test("18 extend: Throws `IllegalStateException` if it is inconsistent", () -> {
            refused(STATE, MIXED, "the nogood", k -> k.extend(1 + 4));
            refused(STATE, MIXED, "more than the nogood", k -> k.extend(7));
            allowed(MIXED, "a part of the nogood", k -> k.extend(1));
            allowed(MIXED, "the other part of the nogood", k -> k.extend(4));
            refused(STATE, BROKEN, "the empty environment", k -> k.extend(0));
            refused(STATE, BROKEN, "that of all assumptions", k -> k.extend(7));
            Ground bare = new Ground("nothing consistent, no node", 0, 0, 1, () -> broken(new AssumptionKeeper()));
            refused(STATE, bare, "the only environment", k -> k.extend(0));
            Ground off = new Ground("a contradiction that is off", 6, 3, 6, () -> switchedOff(broken(mixed()), 5));
            allowed(off, "the empty environment", k -> k.extend(0));
        });
        test("18 extend: what is no environment is named before what is inconsistent", () -> {
            refusesEnvironments(new Ground[] {BROKEN}, AssumptionKeeper::extend);
            refused(ARGUMENT, MIXED, "the nogood with something else", k -> k.extend(8 + 1 + 4));
        });
    }

    private static AssumptionKeeper switchedOff(AssumptionKeeper keeper, int rule) {
        keeper.turn(rule, false);
        return keeper;
    }

    private static void nodeAlone(String method, NumberCall call) {
        test(method + ": Throws `IndexOutOfBoundsException` if there is no such node", () -> refusesNodes(call));
    }

    private static void promises19To23() {
        nodeAlone("19 labelSize", AssumptionKeeper::labelSize);
        test("20 label: Throws `IndexOutOfBoundsException` if there is no such node, or no such environment in its"
                + " label", () -> {
                    for (Ground ground : GROUNDS) {
                        for (int node : beyond(ground.nodes)) {
                            refused(INDEX, ground, "node " + node, k -> k.label(node, 0));
                            refused(INDEX, ground, "node " + node + ", index -1", k -> k.label(node, -1));
                        }
                        for (int node = 0; node < ground.nodes; node++) {
                            refusesLabelIndices(ground, node);
                        }
                    }
                });
        nodeAlone("21 cheapest", AssumptionKeeper::cheapest);
        nodeAlone("22 needed", AssumptionKeeper::needed);
        nodeAlone("23 useful", AssumptionKeeper::useful);
    }

    private static void refusesLabelIndices(Ground ground, int node) {
        int size = ground.maker.get().labelSize(node);
        for (int index : beyond(size)) {
            refused(INDEX, ground, "node " + node + ", index " + index, k -> k.label(node, index));
        }
        if (size > 0) {
            allowed(ground, "node " + node + ", index 0", k -> k.label(node, 0));
            allowed(ground, "node " + node + ", the last index", k -> k.label(node, size - 1));
        }
    }

    private static void refusesIndices(Ground ground, int size, NumberCall call) {
        for (int index : beyond(size)) {
            refused(INDEX, ground, "index " + index, k -> call.on(k, index));
        }
        if (size > 0) {
            allowed(ground, "index 0", k -> call.on(k, 0));
            allowed(ground, "index " + (size - 1), k -> call.on(k, size - 1));
        }
    }

    private static void promises25And27() {
        test("25 nogood: Throws `IndexOutOfBoundsException` if there is no such nogood", () -> {
            for (Ground ground : GROUNDS) {
                refusesIndices(ground, ground.maker.get().nogoodCount(), AssumptionKeeper::nogood);
            }
        });
        test("27 world: Throws `IndexOutOfBoundsException` if there is no such world", () -> {
            for (Ground ground : GROUNDS) {
                refusesIndices(ground, ground.maker.get().worldCount(), AssumptionKeeper::world);
            }
        });
    }

    private static void promises28To31() {
        nodeAlone("28 worldsWith", AssumptionKeeper::worldsWith);
        nodeAlone("29 belief", AssumptionKeeper::belief);
        eitherNode("30 implies", AssumptionKeeper::implies);
        eitherNode("31 excludes", AssumptionKeeper::excludes);
    }

    private static void eitherNode(String method, TwoNumbersCall call) {
        test(method + ": Throws `IndexOutOfBoundsException` if there is no such node", () -> {
            refusesNodes((k, a) -> call.on(k, a, 0));
            refusesNodes((k, b) -> call.on(k, 0, b));
            refusesNodes((k, both) -> call.on(k, both, both));
        });
    }

    public static void main(String[] args) {
        promise2();
        promise3();
        promise4();
        promise5();
        promise5Order();
        promises6And7();
        promises10And11();
        promises12To14();
        promises15To17();
        promise18();
        promises19To23();
        promises25And27();
        promises28To31();
        if (wrong > 0) {
            System.exit(1);
        }
    }
}
