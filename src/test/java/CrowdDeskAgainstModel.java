import java.util.ArrayDeque;
import java.util.ArrayList;
import java.util.Arrays;
import java.util.Collections;
import java.util.HashMap;
import java.util.HashSet;
import java.util.List;
import java.util.Map;
import java.util.Set;
import java.util.TreeSet;

/** Mixed runs of calls, right and wrong ones, each answer against a slow and plain model. */
public final class CrowdDeskAgainstModel {
    private static final int RUNS = 120;
    private static final int CALLS = 512;

    private static int wrong = 0;
    private static long seed = 1;
    private static final Map<String, Integer> ANSWERED = new HashMap<>();

    private static int below(int bound) {
        seed = seed * 6364136223846793005L + 1442695040888963407L;
        return (int) ((seed >>> 33) % bound);
    }

    private static int from(int low, int high) {
        return low + below(high - low + 1);
    }

    public static void main(String[] args) {
        for (int run = 0; run < RUNS && wrong == 0; run++) {
            oneRun(run);
        }
        for (String name : NAMES) {
            if (!ANSWERED.containsKey(name)) {
                wrong++;
                System.out.println("no run got an answer from " + name);
            }
        }
        System.out.println(wrong == 0 ? "all answers are the model's" : wrong + " answers are not the model's");
        if (wrong != 0) {
            System.exit(1);
        }
    }

    private static final String[] NAMES = {
        "coef", "sum", "mod", "combine", "compile", "add", "size", "meet", "sweep", "output", "state",
        "truth", "silent", "agree", "explore", "recovers", "table", "rule", "kind", "clear"};

    private static void oneRun(int run) {
        seed = 7919L * run + 1;
        CrowdDesk desk = new CrowdDesk();
        Model model = new Model();
        int most = below(3) == 0 ? 200 : 6;
        for (int k = 0; k < CALLS; k++) {
            String name = nextName(model);
            int[] a = arguments(name, model, most);
            Object got = answer(desk, name, a);
            Object due = answer(model, name, a);
            if (!got.equals(due)) {
                wrong++;
                System.out.println("run " + run + " call " + k + ": " + name + Arrays.toString(a)
                    + " answered " + got + ", the model " + due);
                return;
            }
            if (!(due instanceof String)) {
                ANSWERED.merge(name, 1, Integer::sum);
            }
        }
    }

    private static String nextName(Model model) {
        int dice = below(100);
        if (dice == 0 && below(2) == 0) {
            return "clear";
        }
        if (!model.compiled) {
            if (dice < 50) {
                return "coef";
            }
            if (dice < 80) {
                String[] makers = {"sum", "mod", "combine", "combine"};
                return makers[below(4)];
            }
            if (dice < 88) {
                return "compile";
            }
        } else if (dice < 25) {
            String[] movers = {"meet", "meet", "meet", "meet", "add", "sweep"};
            return movers[below(6)];
        } else if (dice < 30) {
            return "explore";
        } else if (dice < 35) {
            return "recovers";
        }
        return NAMES[below(NAMES.length - 1)];
    }

    private static int[] arguments(String name, Model model, int most) {
        int agents = model.agents.size();
        int atoms = model.atoms.size();
        boolean edge = below(12) == 0;
        switch (name) {
            case "coef": return new int[] {edge ? from(-1, 8) : from(0, 7), from(-21, 21) / (edge ? 1 : 1 + below(10))};
            case "sum": return new int[] {edge ? from(-22, 22) : from(-5, 5)};
            case "mod": return edge ? new int[] {from(-1, 17), from(0, 18)} : modArguments();
            case "combine": return combineArguments(model, edge);
            case "add": return new int[] {edge ? from(-1, 8) : from(0, 7), addedAgents(agents, most, edge)};
            case "meet": return new int[] {pick(agents, edge), pick(agents, edge)};
            case "sweep": return new int[] {edge ? from(-1, 502) : from(1, 3)};
            case "output": return new int[] {pick(agents, edge)};
            case "state": return new int[] {pick(agents, edge), pick(atoms, edge), pick(3, edge)};
            case "explore": return new int[] {edge ? from(-2, 12) : from(0, 1) * 600 + from(2995, 3000) / 2};
            case "table": return new int[] {pick(atoms, edge), pick(2, edge)};
            case "rule": return new int[] {pick(atoms, edge), tableIndex(model, 1, edge), pick(4, edge)};
            case "kind": return new int[] {pick(atoms, edge), tableIndex(model, 0, edge), pick(3, edge)};
            default: return new int[0];
        }
    }

    private static int[] modArguments() {
        int m = from(2, below(2) == 0 ? 4 : 16);
        return new int[] {below(m), m};
    }

    private static int[] combineArguments(Model model, boolean edge) {
        int nodes = model.nodes.size();
        if (edge || nodes == 0) {
            return new int[] {from(-1, 3), from(-1, nodes), from(-1, nodes)};
        }
        int[] free = unused(model);
        if (free.length < 2 || below(3) == 0) {
            return new int[] {2, free[below(free.length)], from(-3, 30)};
        }
        int first = below(free.length);
        int second = (first + 1 + below(free.length - 1)) % free.length;
        return new int[] {below(2), free[first], free[second]};
    }

    private static int[] unused(Model model) {
        Set<Integer> free = new TreeSet<>();
        for (int n = 0; n < model.nodes.size(); n++) {
            free.add(n);
        }
        for (int[] node : model.nodes) {
            if (node[0] != 3) {
                free.remove(node[1]);
            }
            if (node[0] < 2) {
                free.remove(node[2]);
            }
        }
        return free.stream().mapToInt(n -> n).toArray();
    }

    private static int addedAgents(int agents, int most, boolean edge) {
        if (edge) {
            return most == 200 ? from(-1, 202) : from(-1, 1);
        }
        return most == 200 ? from(0, 12) : Math.min(from(0, 3), Math.max(0, most - agents));
    }

    private static int pick(int count, boolean edge) {
        return edge || count == 0 ? from(-1, count) : below(count);
    }

    private static int tableIndex(Model model, int what, boolean edge) {
        if (model.compiled && !edge) {
            int count = model.table(below(model.atoms.size()), what);
            return below(count + 1);
        }
        return from(-1, 20);
    }

    private static Object answer(CrowdDesk x, String name, int[] a) {
        try {
            switch (name) {
                case "coef": return x.coef(a[0], a[1]);
                case "sum": return x.sum(a[0]);
                case "mod": return x.mod(a[0], a[1]);
                case "combine": return x.combine(a[0], a[1], a[2]);
                case "compile": return x.compile();
                case "add": return x.add(a[0], a[1]);
                case "size": return x.size();
                case "meet": return x.meet(a[0], a[1]);
                case "sweep": return x.sweep(a[0]);
                case "output": return x.output(a[0]);
                case "state": return x.state(a[0], a[1], a[2]);
                case "truth": return x.truth();
                case "silent": return x.silent();
                case "agree": return x.agree();
                case "explore": return x.explore(a[0]);
                case "recovers": return x.recovers();
                case "table": return x.table(a[0], a[1]);
                case "rule": return x.rule(a[0], a[1], a[2]);
                case "kind": return x.kind(a[0], a[1], a[2]);
                default: x.clear(); return 0;
            }
        } catch (RuntimeException e) {
            return e.getClass().getName();
        }
    }

    private static Object answer(Model x, String name, int[] a) {
        try {
            switch (name) {
                case "coef": return x.coef(a[0], a[1]);
                case "sum": return x.sum(a[0]);
                case "mod": return x.mod(a[0], a[1]);
                case "combine": return x.combine(a[0], a[1], a[2]);
                case "compile": return x.compile();
                case "add": return x.add(a[0], a[1]);
                case "size": return x.agents.size();
                case "meet": return x.meet(a[0], a[1]);
                case "sweep": return x.sweep(a[0]);
                case "output": return x.output(a[0]);
                case "state": return x.state(a[0], a[1], a[2]);
                case "truth": return x.truth();
                case "silent": return silent(x, x.agents);
                case "agree": return x.agree();
                case "explore": return x.explore(a[0]);
                case "recovers": return x.recovers();
                case "table": return x.table(a[0], a[1]);
                case "rule": return x.rule(a[0], a[1], a[2]);
                case "kind": return x.kind(a[0], a[1], a[2]);
                default: x.clear(); return 0;
            }
        } catch (RuntimeException e) {
            return e.getClass().getName();
        }
    }

    private static boolean silent(Model x, List<List<S>> crowd) {
        for (int i = 0; i < crowd.size(); i++) {
            for (int j = 0; j < crowd.size(); j++) {
                if (i != j && !x.met(crowd, i, j).equals(crowd)) {
                    return false;
                }
            }
        }
        return true;
    }

    /** A state of an atom, in the document's order. */
    private record S(boolean leads, int value, boolean opinion) implements Comparable<S> {
        @Override
        public int compareTo(S other) {
            if (leads != other.leads) {
                return leads ? 1 : -1;
            }
            if (value != other.value) {
                return value < other.value ? -1 : 1;
            }
            return Boolean.compare(opinion, other.opinion);
        }

        int tell(int what) {
            return what == 0 ? value : what == 1 ? (leads ? 1 : 0) : opinion ? 1 : 0;
        }
    }

    private record A(boolean isMod, int[] a, int goal, int m) {
        S begin(int letter) {
            int value = a[letter];
            while (isMod && value < 0) {
                value += m;
            }
            while (isMod && value >= m) {
                value -= m;
            }
            return new S(true, value, thinks(value));
        }

        boolean thinks(int value) {
            return isMod ? value == goal : value >= goal;
        }

        S[] meet(S i, S j) {
            if (!i.leads() && !j.leads()) {
                return new S[] {i, j};
            }
            int v = i.value() + j.value();
            int lead = v;
            int rest = 0;
            if (isMod) {
                lead = v >= m ? v - m : v;
            } else {
                int s = Math.abs(goal) + 1;
                for (int coefficient : a) {
                    s = Math.max(s, Math.abs(coefficient));
                }
                lead = v > s ? s : v < -s ? -s : v;
                rest = v - lead;
            }
            S leader = new S(true, lead, thinks(lead));
            S other = new S(false, rest, thinks(lead));
            return i.leads() ? new S[] {leader, other} : new S[] {other, leader};
        }

        List<S> states() {
            TreeSet<S> all = new TreeSet<>();
            for (int letter = 0; letter < 8; letter++) {
                all.add(begin(letter));
            }
            int before = 0;
            while (before < all.size()) {
                before = all.size();
                for (S x : new ArrayList<>(all)) {
                    for (S y : new ArrayList<>(all)) {
                        all.addAll(Arrays.asList(meet(x, y)));
                    }
                }
            }
            return new ArrayList<>(all);
        }
    }

    private static final class Model {
        int[] pending = new int[8];
        List<int[]> nodes = new ArrayList<>();
        List<A> atoms = new ArrayList<>();
        List<List<S>> states = new ArrayList<>();
        List<List<int[]>> rules = new ArrayList<>();
        boolean compiled;
        List<List<S>> agents = new ArrayList<>();
        int[] counts = new int[8];
        Map<List<List<S>>, Set<List<List<S>>>> found;

        void clear() {
            Model fresh = new Model();
            pending = fresh.pending;
            nodes = fresh.nodes;
            atoms = fresh.atoms;
            states = fresh.states;
            rules = fresh.rules;
            compiled = false;
            agents = fresh.agents;
            counts = fresh.counts;
            found = null;
        }

        int coef(int letter, int v) {
            argument(letter >= 0 && letter <= 7 && Math.abs(v) <= 20);
            int before = pending[letter];
            pending[letter] = v;
            return before;
        }

        int sum(int c) {
            argument(Math.abs(c) <= 20);
            return atom(new A(false, pending, c, 0));
        }

        int mod(int r, int m) {
            argument(m >= 2 && m <= 16 && r >= 0 && r < m);
            return atom(new A(true, pending, r, m));
        }

        int atom(A atom) {
            inState(!compiled && atoms.size() < 5 && nodes.size() < 20);
            nodes.add(new int[] {3, atoms.size(), 0});
            atoms.add(atom);
            pending = new int[8];
            return nodes.size() - 1;
        }

        int combine(int op, int left, int right) {
            argument(op == 0 || op == 1 || op == 2);
            argument(left >= 0 && left < nodes.size());
            argument(op == 2 || right >= 0 && right < nodes.size());
            inState(!compiled && nodes.size() < 20);
            nodes.add(new int[] {op, left, right});
            return nodes.size() - 1;
        }

        int compile() {
            inState(!compiled && !nodes.isEmpty());
            List<Integer> parts = new ArrayList<>();
            for (int[] node : nodes) {
                if (node[0] != 3) {
                    parts.add(node[1]);
                }
                if (node[0] < 2) {
                    parts.add(node[2]);
                }
            }
            inState(new HashSet<>(parts).size() == parts.size());
            compiled = true;
            int total = 0;
            for (A atom : atoms) {
                states.add(atom.states());
                rules.add(rulesOf(atom, atom.states()));
                total += atom.states().size();
            }
            return total;
        }

        List<int[]> rulesOf(A atom, List<S> of) {
            List<int[]> all = new ArrayList<>();
            for (int x = 0; x < of.size(); x++) {
                for (int y = 0; y < of.size(); y++) {
                    S[] after = atom.meet(of.get(x), of.get(y));
                    int[] rule = {x, y, of.indexOf(after[0]), of.indexOf(after[1])};
                    if (rule[2] != x || rule[3] != y) {
                        all.add(rule);
                    }
                }
            }
            return all;
        }

        int add(int letter, int n) {
            argument(letter >= 0 && letter <= 7 && n >= 0);
            inState(compiled && agents.size() + n <= 200);
            for (int k = 0; k < n; k++) {
                List<S> agent = new ArrayList<>();
                for (A atom : atoms) {
                    agent.add(atom.begin(letter));
                }
                agents.add(agent);
                counts[letter]++;
                found = null;
            }
            return agents.size();
        }

        boolean meet(int i, int j) {
            argument(i != j);
            index(i, agents.size());
            index(j, agents.size());
            List<List<S>> after = met(agents, i, j);
            boolean changed = !after.equals(agents);
            agents = after;
            found = changed ? null : found;
            return changed;
        }

        List<List<S>> met(List<List<S>> crowd, int i, int j) {
            List<S> first = new ArrayList<>();
            List<S> second = new ArrayList<>();
            for (int a = 0; a < atoms.size(); a++) {
                S[] after = atoms.get(a).meet(crowd.get(i).get(a), crowd.get(j).get(a));
                first.add(after[0]);
                second.add(after[1]);
            }
            List<List<S>> after = new ArrayList<>(crowd);
            after.set(i, first);
            after.set(j, second);
            return after;
        }

        int sweep(int times) {
            argument(times >= 1 && times <= 500);
            int changes = 0;
            for (int t = 0; t < Math.min(times, 120); t++) {
                for (int i = 0; i < agents.size(); i++) {
                    for (int j = i + 1; j < agents.size(); j++) {
                        changes += meet(i, j) ? 1 : 0;
                    }
                }
                if (agents.size() > 20 && CrowdDeskAgainstModel.silent(this, agents)) {
                    break;
                }
            }
            return changes;
        }

        boolean output(int i) {
            index(i, agents.size());
            return outputOf(agents.get(i));
        }

        boolean outputOf(List<S> agent) {
            boolean[] opinions = new boolean[atoms.size()];
            for (int a = 0; a < opinions.length; a++) {
                opinions[a] = agent.get(a).opinion();
            }
            return node(nodes.size() - 1, opinions);
        }

        boolean node(int n, boolean[] opinions) {
            int[] node = nodes.get(n);
            switch (node[0]) {
                case 0: return node(node[1], opinions) && node(node[2], opinions);
                case 1: return node(node[1], opinions) || node(node[2], opinions);
                case 2: return !node(node[1], opinions);
                default: return opinions[node[1]];
            }
        }

        int state(int i, int atom, int what) {
            index(i, agents.size());
            index(atom, atoms.size());
            index(what, 3);
            return agents.get(i).get(atom).tell(what);
        }

        boolean truth() {
            inState(compiled);
            boolean[] truths = new boolean[atoms.size()];
            for (int a = 0; a < truths.length; a++) {
                A atom = atoms.get(a);
                int total = 0;
                for (int letter = 0; letter < 8; letter++) {
                    total += atom.a()[letter] * counts[letter];
                }
                truths[a] = atom.isMod() ? (total - atom.goal()) % atom.m() == 0 : total >= atom.goal();
            }
            return node(nodes.size() - 1, truths);
        }

        boolean agree() {
            Set<Boolean> outputs = new HashSet<>();
            for (List<S> agent : agents) {
                outputs.add(outputOf(agent));
            }
            return outputs.size() < 2;
        }

        int explore(int limit) {
            argument(limit >= 1 && limit <= 3000);
            inState(agents.size() >= 1 && agents.size() <= 6);
            found = null;
            Map<List<List<S>>, Set<List<List<S>>>> seen = new HashMap<>();
            ArrayDeque<List<List<S>>> open = new ArrayDeque<>();
            List<List<S>> start = bag(agents);
            seen.put(start, new HashSet<>());
            open.add(start);
            while (!open.isEmpty()) {
                List<List<S>> crowd = open.remove();
                for (int i = 0; i < crowd.size(); i++) {
                    for (int j = 0; j < crowd.size(); j++) {
                        if (i != j) {
                            List<List<S>> after = bag(met(crowd, i, j));
                            if (!seen.containsKey(after)) {
                                seen.put(after, new HashSet<>());
                                open.add(after);
                            }
                            seen.get(after).add(crowd);
                        }
                    }
                }
                if (seen.size() > limit) {
                    return -1;
                }
            }
            found = seen;
            return seen.size();
        }

        List<List<S>> bag(List<List<S>> crowd) {
            List<List<S>> sorted = new ArrayList<>(crowd);
            Collections.sort(sorted, (x, y) -> {
                for (int a = 0; a < x.size(); a++) {
                    int order = x.get(a).compareTo(y.get(a));
                    if (order != 0) {
                        return order;
                    }
                }
                return 0;
            });
            return sorted;
        }

        boolean recovers() {
            inState(found != null);
            Set<List<List<S>>> good = new HashSet<>();
            ArrayDeque<List<List<S>>> open = new ArrayDeque<>();
            for (List<List<S>> crowd : found.keySet()) {
                boolean right = CrowdDeskAgainstModel.silent(this, crowd);
                for (List<S> agent : crowd) {
                    right = right && outputOf(agent) == truth();
                }
                if (right) {
                    good.add(crowd);
                    open.add(crowd);
                }
            }
            while (!open.isEmpty()) {
                for (List<List<S>> before : found.get(open.remove())) {
                    if (good.add(before)) {
                        open.add(before);
                    }
                }
            }
            return good.size() == found.size();
        }

        int table(int atom, int what) {
            index(atom, atoms.size());
            index(what, 2);
            inState(compiled);
            return what == 0 ? states.get(atom).size() : rules.get(atom).size();
        }

        int rule(int atom, int k, int what) {
            index(atom, atoms.size());
            index(what, 4);
            inState(compiled);
            index(k, rules.get(atom).size());
            return rules.get(atom).get(k)[what];
        }

        int kind(int atom, int k, int what) {
            index(atom, atoms.size());
            index(what, 3);
            inState(compiled);
            index(k, states.get(atom).size());
            return states.get(atom).get(k).tell(what);
        }

        static void argument(boolean fits) {
            if (!fits) {
                throw new IllegalArgumentException();
            }
        }

        static void inState(boolean fits) {
            if (!fits) {
                throw new IllegalStateException();
            }
        }

        static void index(int i, int count) {
            if (i < 0 || i >= count) {
                throw new IndexOutOfBoundsException();
            }
        }
    }
}
