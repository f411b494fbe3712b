import java.util.ArrayList;
import java.util.Arrays;
import java.util.HashMap;
import java.util.HashSet;
import java.util.List;
import java.util.Map;
import java.util.Set;

/** The sentences of the document that name no boundary case, from its first line on. */
public final class SentencesWithoutEdges extends Checks {
    private static final int CALLS = 512;
    private static final int ATOMS = 5;
    private static final int[][][] EXPLORED_ATOMS = {
        {{0, 0, 1, -1, 0}}, {{2, 0, 1, 1, 0}},
        {{0, 2, 1, 2, -2}, {3, 1, 1, 2, 0}}, {{4, 3, 1, 3, 2}, {0, -1, -1, 1, 1}}};
    private static final int[][] EXPLORED_LETTERS = {{0}, {0, 1}, {1, 1, 2}, {0, 1, 2}, {0, 0, 1, 1}};

    public static void main(String[] args) {
        namelessAgents();
        calls512();
        objectsByThemselves();
        nodesInTheirOrder();
        sumOfAllLetters();
        restOfAllLetters();
        partsOfFormula();
        outputOfOpinions();
        eachAtomByItself();
        twoAgentsAlone();
        statesAreReached();
        rulesAreMeetings();
        statesTogether();
        agentsMore();
        truthOfLetters();
        allCrowds();
        crowdsRecover();
        finish();
    }

    /** An atom as numbers: m (0 of a SUM atom), then c or r, then the letters' coefficients. */
    private static void makeAtom(CrowdDesk x, int... atom) {
        for (int letter = 0; letter + 2 < atom.length; letter++) {
            x.coef(letter, atom[letter + 2]);
        }
        if (atom[0] == 0) {
            x.sum(atom[1]);
        } else {
            x.mod(atom[1], atom[0]);
        }
    }

    /** Compiled, the last atom being the formula. */
    private static CrowdDesk desk(int[]... atoms) {
        CrowdDesk x = new CrowdDesk();
        for (int[] atom : atoms) {
            makeAtom(x, atom);
        }
        x.compile();
        return x;
    }

    private static CrowdDesk withAgents(CrowdDesk x, int... letters) {
        for (int letter : letters) {
            x.add(letter, 1);
        }
        return x;
    }

    private static List<Integer> factsOf(CrowdDesk x, int i, int atom) {
        return List.of(x.state(i, atom, 0), x.state(i, atom, 1), x.state(i, atom, 2));
    }

    private static void namelessAgents() {
        sentence("Agents are nameless: in another order the same meetings do the same");
        int[][] atoms = {{0, 1, 2, -3, 1}, {5, 2, 1, 3, -1}};
        int[] letters = {0, 1, 2, 0, 1};
        int[] places = {3, 0, 4, 1, 2};
        int[] moved = new int[letters.length];
        for (int k = 0; k < letters.length; k++) {
            moved[places[k]] = letters[k];
        }
        CrowdDesk x = withAgents(desk(atoms), letters);
        CrowdDesk y = withAgents(desk(atoms), moved);
        int[][] meetings = {{0, 1}, {2, 1}, {3, 4}, {4, 2}, {1, 0}, {2, 3}, {0, 4}, {1, 2}};
        for (int[] met : meetings) {
            boolean changed = x.meet(met[0], met[1]);
            due("the meeting", y.meet(places[met[0]], places[met[1]]), changed);
            for (int k = 0; k < letters.length; k++) {
                for (int atom = 0; atom < atoms.length; atom++) {
                    due("the agent's state", factsOf(y, places[k], atom), factsOf(x, k, atom));
                }
            }
        }
        due("silent()", y.silent(), x.silent());
        due("agree()", y.agree(), x.agree());
        due("truth()", y.truth(), x.truth());
        due("explore(3000)", y.explore(3000), x.explore(3000));
    }

    private static void calls512() {
        sentence("An object is used for at most 512 calls");
        CrowdDesk x = new CrowdDesk();
        List<Object> first = round(x);
        for (int made = 2 * first.size(); made <= CALLS; made += first.size()) {
            due("the answers up to call " + made, round(x), first);
        }
        due("a round divides 512", CALLS % first.size(), 0);
    }

    /** 32 calls that end where they began, most of them dear ones, with their answers. */
    private static List<Object> round(CrowdDesk x) {
        List<Object> answers = new ArrayList<>(List.of(
            x.coef(0, 3), x.coef(1, -2), x.sum(2), x.coef(0, 1), x.coef(2, 5), x.mod(3, 7), x.combine(1, 0, 1),
            x.compile(), x.table(0, 0)));
        answers.addAll(List.of(x.table(1, 1), x.rule(0, 20, 3), x.kind(1, 5, 0), x.add(0, 2), x.add(1, 1)));
        answers.addAll(List.of(x.add(2, 1), x.explore(3000), x.recovers(), x.explore(100), x.recovers()));
        answers.addAll(List.of(x.meet(0, 3), x.explore(3000), x.recovers(), x.add(1, 96), x.size()));
        answers.addAll(List.of(x.sweep(500), x.silent(), x.agree(), x.truth(), x.output(99), x.state(99, 1, 2)));
        answers.add(x.add(0, 100));
        x.clear();
        answers.add("cleared");
        return answers;
    }

    private static void objectsByThemselves() {
        sentence("Two objects, called in turn, answer as each would alone");
        CrowdDesk alone = new CrowdDesk();
        List<Object> due = round(alone);
        CrowdDesk x = difference(1);
        CrowdDesk y = new CrowdDesk();
        x.add(0, 3);
        x.add(1, 2);
        int found = x.explore(3000);
        String before = look(x);
        due("the other's answers", round(y), due);
        due("this one is as it was", look(x), before);
        y.coef(0, 7);
        y.mod(6, 13);
        y.compile();
        y.add(0, 6);
        due("the other's explore", y.explore(3000) > 6, true);
        due("this one's explore counts", x.recovers(), true);
        due("and is found again", x.explore(found), found);
        y.sweep(1);
        due("the other's meetings are not this one's", x.recovers(), true);
        due("this one is as it was", look(x), before);
    }

    private static void nodesInTheirOrder() {
        sentence("Nodes are numbered from 0 in the order in which they are made");
        CrowdDesk x = new CrowdDesk();
        int node = 0;
        for (int atom = 0; atom < ATOMS; atom++) {
            due("an atom", atom % 2 == 0 ? x.sum(atom) : x.mod(0, 2), node++);
            due("NOT of it", x.combine(2, node - 1, 0), node++);
            due("NOT of that", x.combine(2, node - 1, 0), node++);
        }
        for (int joined = 1; joined < ATOMS; joined++) {
            int before = joined == 1 ? 2 : node - 1;
            due("joined with the ones before", x.combine(joined % 2, before, 3 * joined + 2), node++);
        }
        due("all of them are parts once", x.compile() > 0, true);
    }

    private static void sumOfAllLetters() {
        sentence("A SUM atom is true when a_0 x_0 + .. + a_7 x_7 >= c");
        int[] coefficients = {7, -11, 3, -20, 20, 0, -1, 5};
        int[] counts = {4, 3, 9, 2, 1, 30, 6, 1};
        int total = 28 - 33 + 27 - 40 + 20 + 0 - 6 + 5;
        for (int c = total - 2; c <= total + 2; c++) {
            CrowdDesk x = new CrowdDesk();
            setAll(x, coefficients);
            x.sum(c);
            x.compile();
            for (int letter = 0; letter < 8; letter++) {
                x.add(letter, counts[letter]);
            }
            due(total + " >= " + c, x.truth(), total >= c);
        }
    }

    private static void restOfAllLetters() {
        sentence("A MOD atom is true when that sum is r more than a multiple of m");
        int[] coefficients = {7, -11, 3, -20, 20, 0, -1, 5};
        int[] counts = {4, 3, 9, 5, 1, 30, 6, 1};
        // 28 - 33 + 27 - 100 + 20 + 0 - 6 + 5 is -59, and that is -63 + 4.
        for (int r = 0; r < 9; r++) {
            CrowdDesk x = new CrowdDesk();
            setAll(x, coefficients);
            x.mod(r, 9);
            x.compile();
            for (int letter = 0; letter < 8; letter++) {
                x.add(letter, counts[letter]);
            }
            due("-59 is " + r + " more than a multiple of 9", x.truth(), r == 4);
        }
    }

    private static void setAll(CrowdDesk x, int[] coefficients) {
        for (int letter = 0; letter < 8; letter++) {
            x.coef(letter, coefficients[letter]);
        }
    }

    /** (0 AND NOT 1) OR NOT (NOT (2 OR 3) AND 4), each atom k being whether x_k >= 1. */
    private static CrowdDesk fiveLetters() {
        CrowdDesk x = new CrowdDesk();
        for (int atom = 0; atom < ATOMS; atom++) {
            x.coef(atom, 1);
            x.sum(1);
        }
        joinFive(x);
        return x;
    }

    private static void joinFive(CrowdDesk x) {
        int notOne = x.combine(2, 1, 0);
        int early = x.combine(0, 0, notOne);
        int late = x.combine(0, x.combine(2, x.combine(1, 2, 3), 0), 4);
        x.combine(1, early, x.combine(2, late, 0));
        x.compile();
    }

    private static boolean five(int truths) {
        boolean[] atom = new boolean[ATOMS];
        for (int k = 0; k < ATOMS; k++) {
            atom[k] = (truths >> k & 1) == 1;
        }
        return (atom[0] && !atom[1]) || !(!(atom[2] || atom[3]) && atom[4]);
    }

    private static void partsOfFormula() {
        sentence("AND and OR of two nodes, NOT of one, as parts of one another");
        for (int truths = 0; truths < 32; truths++) {
            CrowdDesk x = fiveLetters();
            for (int letter = 0; letter < ATOMS; letter++) {
                x.add(letter, (truths >> letter & 1) * (letter + 1));
            }
            due("truth() of " + truths, x.truth(), five(truths));
        }
    }

    private static void outputOfOpinions() {
        sentence("An agent's output is the formula, its atoms being the agent's opinions");
        for (int truths = 0; truths < 32; truths++) {
            CrowdDesk x = new CrowdDesk();
            for (int atom = 0; atom < ATOMS; atom++) {
                x.coef(3, truths >> atom & 1);
                makeAtom(x, atom % 2 == 0 ? 0 : 2, 1);
            }
            joinFive(x);
            x.add(3, 1);
            due("output(0) of " + truths, x.output(0), five(truths));
        }
        CrowdDesk x = fiveLetters();
        x.add(4, 2);
        x.add(0, 1);
        x.add(1, 1);
        x.meet(2, 3);
        x.meet(1, 2);
        for (int i = 0; i < 4; i++) {
            due("output(" + i + ") behind meetings", x.output(i), five(opinionsOf(x, i)));
        }
        due("agent 0 met nobody", opinionsOf(x, 0), 16);
        due("agent 1 led and took what agent 2 had taken", opinionsOf(x, 1), 19);
    }

    private static int opinionsOf(CrowdDesk x, int i) {
        int opinions = 0;
        for (int atom = 0; atom < ATOMS; atom++) {
            opinions |= x.state(i, atom, 2) << atom;
        }
        return opinions;
    }

    private static void eachAtomByItself() {
        sentence("When agent i meets agent j, each atom by itself");
        int[][] atoms = {{0, 3, 2, -1, 4}, {7, 5, 3, -4, 6}, {0, -2, -3, 1, 0}, {2, 1, 1, 1, 0}, {0, 0, 1, -1, 0}};
        int[] letters = {0, 1, 2, 2, 1};
        CrowdDesk together = withAgents(desk(atoms), letters);
        CrowdDesk[] alone = new CrowdDesk[ATOMS];
        for (int atom = 0; atom < ATOMS; atom++) {
            alone[atom] = withAgents(desk(atoms[atom]), letters);
        }
        int[][] meetings = {{0, 1}, {1, 2}, {3, 4}, {4, 0}, {2, 3}, {0, 3}, {1, 0}, {4, 2}, {3, 1}};
        for (int[] met : meetings) {
            boolean changed = false;
            for (int atom = 0; atom < ATOMS; atom++) {
                changed |= alone[atom].meet(met[0], met[1]);
            }
            due("the meeting changed an atom", together.meet(met[0], met[1]), changed);
            for (int atom = 0; atom < ATOMS; atom++) {
                due("i's state", factsOf(together, met[0], atom), factsOf(alone[atom], met[0], 0));
                due("j's state", factsOf(together, met[1], atom), factsOf(alone[atom], met[1], 0));
            }
        }
    }

    private static void twoAgentsAlone() {
        sentence("A meeting of two agents leaves the others as they are");
        int[][] atoms = {{0, 1, 2, -3, 1}, {5, 2, 1, 3, -1}};
        int[] letters = {0, 1, 2, 0, 1, 2};
        CrowdDesk x = withAgents(desk(atoms), letters);
        for (int i = 0; i < 3; i++) {
            int j = (i + 3) % 6;
            List<List<Integer>> before = others(x, i, j);
            due("meet(" + i + ", " + j + ")", x.meet(i, j), true);
            due("the others", others(x, i, j), before);
        }
    }

    private static List<List<Integer>> others(CrowdDesk x, int i, int j) {
        List<List<Integer>> facts = new ArrayList<>();
        for (int k = 0; k < x.size(); k++) {
            if (k != i && k != j) {
                facts.add(factsOf(x, k, 0));
                facts.add(factsOf(x, k, 1));
            }
        }
        return facts;
    }

    /** Small atoms, so that one object can tell their whole table within its 512 calls. */
    private static int[][] smallAtoms() {
        return new int[][] {
            {0, 0, 1, -1, 0}, {0, 1, 1, 0, 0}, {0, -1, 1, 1, -1}, {2, 0, 1, 1, 0}, {3, 2, 1, 2, -2}, {4, 1, 2, 2, 0}};
    }

    /** All states of the first atom, by their numbers. */
    private static List<List<Integer>> kindsOf(int[] atom) {
        CrowdDesk x = desk(atom);
        List<List<Integer>> kinds = new ArrayList<>();
        for (int k = 0; k < x.table(0, 0); k++) {
            kinds.add(List.of(x.kind(0, k, 0), x.kind(0, k, 1), x.kind(0, k, 2)));
        }
        return kinds;
    }

    /** All rules of the first atom: what x and y become. */
    private static Map<List<Integer>, List<Integer>> rulesOf(int[] atom) {
        CrowdDesk x = desk(atom);
        Map<List<Integer>, List<Integer>> rules = new HashMap<>();
        int count = x.table(0, 1);
        for (int k = 0; k < count; k++) {
            rules.put(List.of(x.rule(0, k, 0), x.rule(0, k, 1)), List.of(x.rule(0, k, 2), x.rule(0, k, 3)));
        }
        due("no pair has two rules", rules.size(), count);
        return rules;
    }

    /**
     * How agents come to the states of an atom: by a letter, or as one of two that meet (the first
     * or the second), each of which came to its state before. Null where there is no way.
     */
    private static int[][] waysTo(List<List<Integer>> kinds, Map<List<Integer>, List<Integer>> rules, int[] atom) {
        int[][] ways = new int[kinds.size()][];
        CrowdDesk x = withAgents(desk(atom), 0, 1, 2, 3, 4, 5, 6, 7);
        for (int letter = 0; letter < 8; letter++) {
            int number = kinds.indexOf(factsOf(x, letter, 0));
            due("the beginning of letter " + letter + " is a state", number >= 0, true);
            ways[number] = new int[] {letter};
        }
        for (int pass = 0; pass < kinds.size(); pass++) {
            int[][] known = ways.clone();
            for (Map.Entry<List<Integer>, List<Integer>> rule : rules.entrySet()) {
                int first = rule.getKey().get(0);
                int second = rule.getKey().get(1);
                for (int side = 0; side < 2; side++) {
                    int after = rule.getValue().get(side);
                    if (known[first] != null && known[second] != null && ways[after] == null) {
                        ways[after] = new int[] {first, second, side};
                    }
                }
            }
        }
        return ways;
    }

    /** Brings an agent to a state by the letters and meetings of its way: the agent's number. */
    private static int agentOf(CrowdDesk x, int[][] ways, int state) {
        int[] way = ways[state];
        if (way.length == 1) {
            return x.add(way[0], 1) - 1;
        }
        int i = agentOf(x, ways, way[0]);
        int j = agentOf(x, ways, way[1]);
        x.meet(i, j);
        return way[2] == 0 ? i : j;
    }

    private static void statesAreReached() {
        sentence("The states: with which agents begin, and to which meetings lead again and again, no others");
        for (int[] atom : smallAtoms()) {
            List<List<Integer>> kinds = kindsOf(atom);
            int[][] ways = waysTo(kinds, rulesOf(atom), atom);
            for (int state = 0; state < kinds.size(); state++) {
                due("there is a way to state " + state, ways[state] != null, true);
                CrowdDesk x = desk(atom);
                due("an agent of state " + state, factsOf(x, agentOf(x, ways, state), 0), kinds.get(state));
            }
        }
    }

    private static void rulesAreMeetings() {
        sentence("A rule is a pair (x, y) of states (x meets y) in which a meeting changes one or both");
        for (int[] atom : smallAtoms()) {
            List<List<Integer>> kinds = kindsOf(atom);
            Map<List<Integer>, List<Integer>> rules = rulesOf(atom);
            int[][] ways = waysTo(kinds, rules, atom);
            for (int pair = 0; pair < kinds.size() * kinds.size(); pair++) {
                List<Integer> before = List.of(pair / kinds.size(), pair % kinds.size());
                CrowdDesk x = desk(atom);
                int i = agentOf(x, ways, before.get(0));
                int j = agentOf(x, ways, before.get(1));
                due("whether " + before + " change", x.meet(i, j), rules.containsKey(before));
                List<Integer> after = List.of(kinds.indexOf(factsOf(x, i, 0)), kinds.indexOf(factsOf(x, j, 0)));
                due("what " + before + " become", after, rules.getOrDefault(before, before));
            }
        }
    }

    private static void statesTogether() {
        sentence("compile(): how many states all its atoms have together");
        int[][] atoms = smallAtoms();
        CrowdDesk x = new CrowdDesk();
        int due = 0;
        for (int atom = 0; atom < ATOMS; atom++) {
            makeAtom(x, atoms[atom]);
            due += kindsOf(atoms[atom]).size();
        }
        due("compile()", x.compile(), due);
        for (int atom = 0; atom < ATOMS; atom++) {
            due("table(" + atom + ", 0)", x.table(atom, 0), kindsOf(atoms[atom]).size());
            due("table(" + atom + ", 1)", x.table(atom, 1), rulesOf(atoms[atom]).size());
        }
    }

    private static void agentsMore() {
        sentence("n agents more with a letter come behind those that are there");
        CrowdDesk x = desk(new int[] {0, 2, 3, -1, 2}, new int[] {7, 6, 1, -1, 4});
        x.add(1, 2);
        x.add(0, 3);
        x.meet(0, 2);
        List<List<Integer>> before = others(x, 1, 3);
        due("add(2, 4)", x.add(2, 4), 9);
        due("those that were there", others(x, 1, 3).subList(0, before.size()), before);
        for (int i = 5; i < 9; i++) {
            expectState(x, i, 0, 2, 1, 1);
            expectState(x, i, 1, 4, 1, 0);
        }
    }

    private static void truthOfLetters() {
        sentence("truth(): over the counts of the agents' letters, whatever they met");
        for (int c = -2; c <= 2; c++) {
            CrowdDesk x = withAgents(difference(c), 0, 1, 0, 1, 1, 0, 2);
            for (int i = 0; i < 7; i++) {
                for (int j = 6; j > i; j--) {
                    x.meet(j, i);
                    due("truth()", x.truth(), 0 >= c);
                }
            }
            x.add(0, 1);
            due("truth() with one more", x.truth(), 1 >= c);
        }
    }

    /** All crowds that meetings of real agents lead to, each with the crowds one meeting on. */
    private static Map<String, Set<String>> crowdsByMeetings(int[][] atoms, int[] letters, Set<String> rightEnds) {
        Map<String, Set<String>> next = new HashMap<>();
        List<List<int[]>> ways = new ArrayList<>();
        ways.add(List.of());
        for (int at = 0; at < ways.size(); at++) {
            CrowdDesk here = behind(atoms, letters, ways.get(at));
            String bag = bagOf(here, atoms.length);
            if (next.containsKey(bag)) {
                continue;
            }
            next.put(bag, new HashSet<>());
            if (here.silent() && here.agree() && here.output(0) == here.truth()) {
                rightEnds.add(bag);
            }
            for (int met = 0; met < letters.length * letters.length; met++) {
                int[] meeting = {met / letters.length, met % letters.length};
                if (meeting[0] != meeting[1]) {
                    List<int[]> way = new ArrayList<>(ways.get(at));
                    way.add(meeting);
                    next.get(bag).add(bagOf(behind(atoms, letters, way), atoms.length));
                    ways.add(way);
                }
            }
        }
        return next;
    }

    private static CrowdDesk behind(int[][] atoms, int[] letters, List<int[]> meetings) {
        CrowdDesk x = withAgents(desk(atoms), letters);
        for (int[] met : meetings) {
            x.meet(met[0], met[1]);
        }
        return x;
    }

    private static String bagOf(CrowdDesk x, int atoms) {
        List<String> agents = new ArrayList<>();
        for (int i = 0; i < x.size(); i++) {
            StringBuilder agent = new StringBuilder();
            for (int atom = 0; atom < atoms; atom++) {
                agent.append(factsOf(x, i, atom));
            }
            agents.add(agent.toString());
        }
        agents.sort(null);
        return agents.toString();
    }

    private static void allCrowds() {
        sentence("explore(): all crowds to which meetings can lead, itself as well: how many there are");
        for (int[][] atoms : EXPLORED_ATOMS) {
            for (int[] letters : EXPLORED_LETTERS) {
                int crowds = crowdsByMeetings(atoms, letters, new HashSet<>()).size();
                CrowdDesk x = withAgents(desk(atoms), letters);
                due("explore(3000) of " + Arrays.toString(letters), x.explore(3000), crowds);
            }
        }
    }

    private static void crowdsRecover() {
        sentence("recovers(): whether from each crowd meetings can lead to a silent one with the right outputs");
        for (int[][] atoms : EXPLORED_ATOMS) {
            for (int[] letters : EXPLORED_LETTERS) {
                Set<String> good = new HashSet<>();
                Map<String, Set<String>> next = crowdsByMeetings(atoms, letters, good);
                for (int pass = 0; pass < next.size(); pass++) {
                    for (Map.Entry<String, Set<String>> crowd : next.entrySet()) {
                        if (crowd.getValue().stream().anyMatch(good::contains)) {
                            good.add(crowd.getKey());
                        }
                    }
                }
                CrowdDesk x = withAgents(desk(atoms), letters);
                x.explore(3000);
                due("recovers() of " + Arrays.toString(letters), x.recovers(), good.size() == next.size());
            }
        }
    }
}
