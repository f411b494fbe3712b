import java.util.Arrays;

/**
 * Turns formulas over the counts of letters into rules for nameless agents that meet in pairs; a
 * crowd of agents, its meetings and sweeps, and all crowds that meetings can lead to.
 */
public final class CrowdDesk {
    public static final int NONE = -1;

    private static final int LETTERS = 8;
    private static final int MAX_COEFFICIENT = 20;
    private static final int MIN_MODULUS = 2;
    private static final int MAX_MODULUS = 16;
    private static final int MAX_ATOMS = 5;
    private static final int MAX_NODES = 20;
    private static final int MAX_AGENTS = 200;
    private static final int MAX_SWEEPS = 500;
    private static final int MAX_LIMIT = 3000;
    private static final int MAX_EXPLORED_AGENTS = 6;

    private static final int AND = 0;
    private static final int OR = 1;
    private static final int NOT = 2;
    private static final int ATOM = 3;

    private static final int STATE_FACTS = 3;
    private static final int RULE_FACTS = 4;
    private static final int TABLE_FACTS = 2;

    private final Formula formula;
    private final Crowd crowd;
    // Made by the first explore: most objects never explore, and its rows are by far the longest.
    private Search search;
    private boolean explored;

    public CrowdDesk() {
        formula = new Formula();
        crowd = new Crowd(formula);
        search = null;
        explored = false;
    }

    public void clear() {
        formula.reset();
        crowd.reset();
        explored = false;
    }

    public int coef(int letter, int v) throws IllegalArgumentException {
        if (!isLetter(letter)) {
            throw new IllegalArgumentException("no such letter");
        }
        if (!isCoefficient(v)) {
            throw new IllegalArgumentException("v is not -20 .. 20");
        }
        return formula.setPending(letter, v);
    }

    public int sum(int c) throws IllegalArgumentException, IllegalStateException {
        if (!isCoefficient(c)) {
            throw new IllegalArgumentException("c is not -20 .. 20");
        }
        if (!formula.takesAtom()) {
            throw new IllegalStateException("compiled, or too many atoms or nodes");
        }
        return formula.addAtom(Atom.NO_MODULUS, c);
    }

    public int mod(int r, int m) throws IllegalArgumentException, IllegalStateException {
        if (m < MIN_MODULUS || m > MAX_MODULUS) {
            throw new IllegalArgumentException("m is not 2 .. 16");
        }
        if (r < 0 || r >= m) {
            throw new IllegalArgumentException("r is not 0 .. m - 1");
        }
        if (!formula.takesAtom()) {
            throw new IllegalStateException("compiled, or too many atoms or nodes");
        }
        return formula.addAtom(m, r);
    }

    public int combine(int op, int left, int right) throws IllegalArgumentException, IllegalStateException {
        if (op != AND && op != OR && op != NOT) {
            throw new IllegalArgumentException("no such op");
        }
        if (!formula.hasNode(left) || (op != NOT && !formula.hasNode(right))) {
            throw new IllegalArgumentException("no such node");
        }
        if (!formula.takesNode()) {
            throw new IllegalStateException("compiled, or too many nodes");
        }
        return formula.addNode(op, left, right);
    }

    public int compile() throws IllegalStateException {
        if (formula.isCompiled()) {
            throw new IllegalStateException("compiled already");
        }
        if (formula.isEmpty()) {
            throw new IllegalStateException("no nodes");
        }
        if (formula.hasSharedNode()) {
            throw new IllegalStateException("a node is a part twice");
        }
        return formula.makeRules();
    }

    public int add(int letter, int n) throws IllegalArgumentException, IllegalStateException {
        if (!isLetter(letter)) {
            throw new IllegalArgumentException("no such letter");
        }
        if (n < 0) {
            throw new IllegalArgumentException("n is below 0");
        }
        if (!formula.isCompiled()) {
            throw new IllegalStateException("not compiled");
        }
        if (n > MAX_AGENTS - crowd.count()) {
            throw new IllegalStateException("more than 200 agents");
        }
        if (n > 0) {
            crowd.admit(letter, n);
            explored = false;
        }
        return crowd.count();
    }

    public int size() {
        return crowd.count();
    }

    public boolean meet(int i, int j) throws IllegalArgumentException, IndexOutOfBoundsException {
        if (i == j) {
            throw new IllegalArgumentException("an agent does not meet itself");
        }
        if (!crowd.hasAgent(i) || !crowd.hasAgent(j)) {
            throw new IndexOutOfBoundsException("no such agent");
        }
        boolean changed = crowd.bringTogether(i, j);
        if (changed) {
            explored = false;
        }
        return changed;
    }

    public int sweep(int times) throws IllegalArgumentException {
        if (times < 1 || times > MAX_SWEEPS) {
            throw new IllegalArgumentException("times is not 1 .. 500");
        }
        int changes = crowd.sweepOften(times);
        if (changes > 0) {
            explored = false;
        }
        return changes;
    }

    public boolean output(int i) throws IndexOutOfBoundsException {
        if (!crowd.hasAgent(i)) {
            throw new IndexOutOfBoundsException("no such agent");
        }
        return formula.outputOf(crowd.agent(i));
    }

    public int state(int i, int atom, int what) throws IndexOutOfBoundsException {
        if (!crowd.hasAgent(i) || !formula.hasAtom(atom) || !isFact(what, STATE_FACTS)) {
            throw new IndexOutOfBoundsException("no such agent, atom or what");
        }
        return Code.fact(Code.ofAtom(crowd.agent(i), atom), what);
    }

    public boolean truth() throws IllegalStateException {
        if (!formula.isCompiled()) {
            throw new IllegalStateException("not compiled");
        }
        return formula.isTrueOf(crowd.letterCounts());
    }

    public boolean silent() {
        return crowd.isQuiet();
    }

    public boolean agree() {
        return crowd.isOfOneMind();
    }

    public int explore(int limit) throws IllegalArgumentException, IllegalStateException {
        if (limit < 1 || limit > MAX_LIMIT) {
            throw new IllegalArgumentException("limit is not 1 .. 3000");
        }
        if (crowd.count() < 1 || crowd.count() > MAX_EXPLORED_AGENTS) {
            throw new IllegalStateException("no agents, or more than 6");
        }
        if (search == null) {
            search = new Search(formula);
        }
        int found = search.findAll(crowd, limit);
        explored = found != NONE;
        return found;
    }

    public boolean recovers() throws IllegalStateException {
        if (!explored || search == null) {
            throw new IllegalStateException("the present crowd is not explored");
        }
        return search.allCanEndRight(formula.isTrueOf(crowd.letterCounts()));
    }

    public int table(int atom, int what) throws IndexOutOfBoundsException, IllegalStateException {
        checkTable(atom, what, TABLE_FACTS);
        Atom asked = formula.atom(atom);
        return what == 0 ? asked.stateCount() : asked.ruleCount();
    }

    public int rule(int atom, int k, int what) throws IndexOutOfBoundsException, IllegalStateException {
        checkTable(atom, what, RULE_FACTS);
        Atom asked = formula.atom(atom);
        if (k < 0 || k >= asked.ruleCount()) {
            throw new IndexOutOfBoundsException("no such rule");
        }
        return asked.ruleFact(k, what);
    }

    public int kind(int atom, int k, int what) throws IndexOutOfBoundsException, IllegalStateException {
        checkTable(atom, what, STATE_FACTS);
        Atom asked = formula.atom(atom);
        if (k < 0 || k >= asked.stateCount()) {
            throw new IndexOutOfBoundsException("no such state");
        }
        return Code.fact(asked.codeOf(k), what);
    }

    private void checkTable(int atom, int what, int facts) {
        if (!formula.hasAtom(atom) || !isFact(what, facts)) {
            throw new IndexOutOfBoundsException("no such atom or what");
        }
        if (!formula.isCompiled()) {
            throw new IllegalStateException("not compiled");
        }
    }

    private static boolean isLetter(int letter) {
        return letter >= 0 && letter < LETTERS;
    }

    private static boolean isCoefficient(int v) {
        return v >= -MAX_COEFFICIENT && v <= MAX_COEFFICIENT;
    }

    private static boolean isFact(int what, int facts) {
        return what >= 0 && what < facts;
    }

    /**
     * A state of an atom as one number of 8 bits, an agent's states of all atoms as one long of
     * such numbers. The bits stand so that the order of the numbers is the document's order of the
     * states: leading, then value, then opinion.
     */
    private static final class Code {
        static final int ALL = 256;
        static final int BITS = 8;

        private static final int MASK = 255;
        private static final int LEADS = 128;
        private static final int OPINION = 1;
        // Values go from -21 to 21; this makes them fit into six bits.
        private static final int VALUE_SHIFT = 32;
        private static final int VALUE_MASK = 63;
        private static final long LEADS_SOME_ATOM = 0x8080808080L;

        static int of(boolean leads, int value, boolean opinion) {
            int code = (value + VALUE_SHIFT) << 1;
            if (leads) {
                code |= LEADS;
            }
            return opinion ? code | OPINION : code;
        }

        static int value(int code) {
            return ((code >> 1) & VALUE_MASK) - VALUE_SHIFT;
        }

        static boolean leads(int code) {
            return (code & LEADS) != 0;
        }

        static int opinion(int code) {
            return code & OPINION;
        }

        static int fact(int code, int what) {
            if (what == 0) {
                return value(code);
            }
            if (what == 1) {
                return leads(code) ? 1 : 0;
            }
            return opinion(code);
        }

        static int pair(int first, int second) {
            return first << BITS | second;
        }

        static int first(int pair) {
            return pair >> BITS & MASK;
        }

        static int second(int pair) {
            return pair & MASK;
        }

        static int ofAtom(long agent, int atom) {
            return (int) (agent >> atom * BITS) & MASK;
        }

        static long atAtom(int code, int atom) {
            return (long) code << atom * BITS;
        }

        static boolean leadsSomewhere(long agent) {
            return (agent & LEADS_SOME_ATOM) != 0;
        }
    }

    /** A SUM or MOD atom, the rule of its meetings, and (when compiled) its numbered states. */
    private static final class Atom {
        static final int NO_MODULUS = 0;

        private final int[] coefficients = new int[LETTERS];
        private int modulus;
        // c of a SUM atom, r of a MOD atom.
        private int target;
        private int bound;

        private final int[] codes = new int[Code.ALL];
        private final int[] numbers = new int[Code.ALL];
        // The number of the first rule of each x; rules are sought from here, so none is stored.
        private final int[] firstRules = new int[Code.ALL + 1];
        private int states;

        void become(int newModulus, int newTarget, int[] newCoefficients) {
            modulus = newModulus;
            target = newTarget;
            bound = Math.abs(newTarget) + 1;
            for (int letter = 0; letter < LETTERS; letter++) {
                coefficients[letter] = newCoefficients[letter];
                bound = Math.max(bound, Math.abs(newCoefficients[letter]));
            }
        }

        boolean isTrueOf(int[] counts) {
            int total = 0;
            for (int letter = 0; letter < LETTERS; letter++) {
                total += coefficients[letter] * counts[letter];
            }
            return opinionOf(reduce(total));
        }

        int beginning(int letter) {
            int value = reduce(coefficients[letter]);
            return Code.of(true, value, opinionOf(value));
        }

        /** What two states become when the first one meets the second one, as a pair. */
        int afterMeeting(int first, int second) {
            boolean firstLeads = Code.leads(first);
            if (!firstLeads && !Code.leads(second)) {
                return Code.pair(first, second);
            }
            int total = Code.value(first) + Code.value(second);
            int kept = modulus > 0 ? reduce(total) : Math.max(-bound, Math.min(bound, total));
            int left = modulus > 0 ? 0 : total - kept;
            boolean opinion = opinionOf(kept);
            int leader = Code.of(true, kept, opinion);
            int other = Code.of(false, left, opinion);
            return firstLeads ? Code.pair(leader, other) : Code.pair(other, leader);
        }

        private int reduce(int value) {
            return modulus > 0 ? Math.floorMod(value, modulus) : value;
        }

        private boolean opinionOf(int value) {
            return modulus > 0 ? value == target : value >= target;
        }

        void makeTable() {
            findStates();
            numberStates();
            countRules();
        }

        private void findStates() {
            Arrays.fill(numbers, NONE);
            states = 0;
            for (int letter = 0; letter < LETTERS; letter++) {
                learn(beginning(letter));
            }
            // The list grows while it is gone through; each state meets all up to itself.
            for (int x = 0; x < states && x < Code.ALL; x++) {
                for (int y = 0; y <= x; y++) {
                    learnBoth(afterMeeting(codes[x], codes[y]));
                    learnBoth(afterMeeting(codes[y], codes[x]));
                }
            }
        }

        private void learnBoth(int pair) {
            learn(Code.first(pair));
            learn(Code.second(pair));
        }

        private void learn(int code) {
            if (numbers[code] == NONE) {
                numbers[code] = states;
                codes[states] = code;
                states++;
            }
        }

        private void numberStates() {
            int next = 0;
            for (int code = 0; code < Code.ALL; code++) {
                if (numbers[code] != NONE) {
                    numbers[code] = next;
                    codes[next] = code;
                    next++;
                }
            }
        }

        private void countRules() {
            firstRules[0] = 0;
            for (int x = 0; x < states; x++) {
                int rules = 0;
                for (int y = 0; y < states; y++) {
                    if (isRule(x, y)) {
                        rules++;
                    }
                }
                firstRules[x + 1] = firstRules[x] + rules;
            }
        }

        private boolean isRule(int x, int y) {
            return afterMeeting(codes[x], codes[y]) != Code.pair(codes[x], codes[y]);
        }

        int stateCount() {
            return states;
        }

        int ruleCount() {
            return firstRules[states];
        }

        int codeOf(int number) {
            return codes[number];
        }

        int ruleFact(int k, int what) {
            int x = firstOfRule(k);
            int y = secondOfRule(k, x);
            if (what == 0) {
                return x;
            }
            if (what == 1) {
                return y;
            }
            int after = afterMeeting(codes[x], codes[y]);
            return numbers[what == 2 ? Code.first(after) : Code.second(after)];
        }

        private int firstOfRule(int k) {
            int x = 0;
            while (x < states - 1 && firstRules[x + 1] <= k) {
                x++;
            }
            return x;
        }

        private int secondOfRule(int k, int x) {
            int skipped = firstRules[x];
            for (int y = 0; y < states; y++) {
                if (isRule(x, y)) {
                    if (skipped == k) {
                        return y;
                    }
                    skipped++;
                }
            }
            return 0;
        }
    }

    /** The nodes, the atoms among them, and the coefficients that wait for the next atom. */
    private static final class Formula {
        private final int[] pending = new int[LETTERS];
        private final int[] ops = new int[MAX_NODES];
        // Of an atom's node, lefts holds the atom's number.
        private final int[] lefts = new int[MAX_NODES];
        private final int[] rights = new int[MAX_NODES];
        private final Atom[] atoms = new Atom[MAX_ATOMS];
        private int nodeCount;
        private int atomCount;
        private boolean compiled;

        Formula() {
            for (int a = 0; a < MAX_ATOMS; a++) {
                atoms[a] = new Atom();
            }
        }

        void reset() {
            Arrays.fill(pending, 0);
            nodeCount = 0;
            atomCount = 0;
            compiled = false;
        }

        int setPending(int letter, int v) {
            int before = pending[letter];
            pending[letter] = v;
            return before;
        }

        boolean takesNode() {
            return !compiled && nodeCount < MAX_NODES;
        }

        boolean takesAtom() {
            return takesNode() && atomCount < MAX_ATOMS;
        }

        boolean hasNode(int node) {
            return node >= 0 && node < nodeCount;
        }

        boolean hasAtom(int atom) {
            return atom >= 0 && atom < atomCount;
        }

        boolean isCompiled() {
            return compiled;
        }

        boolean isEmpty() {
            return nodeCount == 0;
        }

        Atom atom(int atom) {
            return atoms[atom];
        }

        int atomCount() {
            return atomCount;
        }

        int addAtom(int modulus, int target) {
            atoms[atomCount].become(modulus, target, pending);
            Arrays.fill(pending, 0);
            int node = addNode(ATOM, atomCount, 0);
            atomCount++;
            return node;
        }

        int addNode(int op, int left, int right) {
            int node = nodeCount;
            ops[node] = op;
            lefts[node] = left;
            rights[node] = right;
            nodeCount++;
            return node;
        }

        /** Whether a node is twice a part; nodes outside the last one's parts count here, too. */
        boolean hasSharedNode() {
            int used = 0;
            for (int node = 0; node < nodeCount; node++) {
                int leftPart = ops[node] == ATOM ? 0 : 1 << lefts[node];
                int rightPart = ops[node] == AND || ops[node] == OR ? 1 << rights[node] : 0;
                if ((used & (leftPart | rightPart)) != 0 || (leftPart & rightPart) != 0) {
                    return true;
                }
                used |= leftPart | rightPart;
            }
            return false;
        }

        int makeRules() {
            int total = 0;
            for (int a = 0; a < atomCount; a++) {
                atoms[a].makeTable();
                total += atoms[a].stateCount();
            }
            compiled = true;
            return total;
        }

        long beginning(int letter) {
            long agent = 0;
            for (int a = 0; a < atomCount; a++) {
                agent |= Code.atAtom(atoms[a].beginning(letter), a);
            }
            return agent;
        }

        boolean isTrueOf(int[] counts) {
            int atomTruths = 0;
            for (int a = 0; a < atomCount; a++) {
                if (atoms[a].isTrueOf(counts)) {
                    atomTruths |= 1 << a;
                }
            }
            return evaluate(atomTruths);
        }

        boolean outputOf(long agent) {
            int opinions = 0;
            for (int a = 0; a < atomCount; a++) {
                opinions |= Code.opinion(Code.ofAtom(agent, a)) << a;
            }
            return evaluate(opinions);
        }

        boolean allOutputsAre(boolean due, long[] agents, int from, int count) {
            for (int k = 0; k < count; k++) {
                if (outputOf(agents[from + k]) != due) {
                    return false;
                }
            }
            return true;
        }

        /** The last node's truth. Parts have lower numbers, so one pass in their order is enough. */
        private boolean evaluate(int atomTruths) {
            int truths = 0;
            for (int node = 0; node < nodeCount; node++) {
                truths |= nodeTruth(node, atomTruths, truths) << node;
            }
            return nodeCount > 0 && bit(truths, nodeCount - 1) == 1;
        }

        private int nodeTruth(int node, int atomTruths, int truths) {
            switch (ops[node]) {
                case ATOM:
                    return bit(atomTruths, lefts[node]);
                case AND:
                    return bit(truths, lefts[node]) & bit(truths, rights[node]);
                case OR:
                    return bit(truths, lefts[node]) | bit(truths, rights[node]);
                default:
                    return 1 - bit(truths, lefts[node]);
            }
        }

        private static int bit(int bits, int at) {
            return bits >> at & 1;
        }
    }

    /** A meeting of two agents, all atoms at once. What they become is kept until the next one. */
    private static final class Meeting {
        private final Formula formula;
        private long first;
        private long second;

        Meeting(Formula formula) {
            this.formula = formula;
        }

        /** Lets two agents meet: whether that changes one of them. */
        boolean changes(long x, long y) {
            first = x;
            second = y;
            // Without a leader nothing happens; most pairs of a large crowd end here.
            if (!Code.leadsSomewhere(x | y)) {
                return false;
            }
            first = 0;
            second = 0;
            for (int a = 0; a < formula.atomCount(); a++) {
                int after = formula.atom(a).afterMeeting(Code.ofAtom(x, a), Code.ofAtom(y, a));
                first |= Code.atAtom(Code.first(after), a);
                second |= Code.atAtom(Code.second(after), a);
            }
            return first != x || second != y;
        }

        long first() {
            return first;
        }

        long second() {
            return second;
        }

        boolean changesNone(long[] agents, int from, int count) {
            for (int i = 0; i < count; i++) {
                for (int j = 0; j < count; j++) {
                    if (i != j && changes(agents[from + i], agents[from + j])) {
                        return false;
                    }
                }
            }
            return true;
        }
    }

    /** The agents, in the order in which they came, and the counts of their letters. */
    private static final class Crowd {
        private final Formula formula;
        private final Meeting meeting;
        private final long[] agents = new long[MAX_AGENTS];
        private final int[] letterCounts = new int[LETTERS];
        private int count;

        Crowd(Formula formula) {
            this.formula = formula;
            meeting = new Meeting(formula);
        }

        void reset() {
            Arrays.fill(letterCounts, 0);
            count = 0;
        }

        int count() {
            return count;
        }

        boolean hasAgent(int i) {
            return i >= 0 && i < count;
        }

        long agent(int i) {
            return agents[i];
        }

        int[] letterCounts() {
            return letterCounts;
        }

        void admit(int letter, int n) {
            long agent = formula.beginning(letter);
            for (int k = 0; k < n; k++) {
                agents[count] = agent;
                count++;
            }
            letterCounts[letter] += n;
        }

        boolean bringTogether(int i, int j) {
            boolean changed = meeting.changes(agents[i], agents[j]);
            agents[i] = meeting.first();
            agents[j] = meeting.second();
            return changed;
        }

        int sweepOften(int times) {
            int changes = 0;
            for (int t = 0; t < times; t++) {
                int more = sweepOnce();
                // A sweep that changes nothing is followed only by such sweeps.
                if (more == 0) {
                    break;
                }
                changes += more;
            }
            return changes;
        }

        private int sweepOnce() {
            int changes = 0;
            int leadersEnd = behindLastLeader();
            for (int i = 0; i < count; i++) {
                // Two that do not lead change nothing, and no meeting makes a new leader.
                int end = Code.leadsSomewhere(agents[i]) ? count : leadersEnd;
                for (int j = i + 1; j < end; j++) {
                    if (bringTogether(i, j)) {
                        changes++;
                    }
                }
            }
            return changes;
        }

        private int behindLastLeader() {
            int end = count;
            while (end > 0 && !Code.leadsSomewhere(agents[end - 1])) {
                end--;
            }
            return end;
        }

        boolean isQuiet() {
            return meeting.changesNone(agents, 0, count);
        }

        boolean isOfOneMind() {
            return count == 0 || formula.allOutputsAre(formula.outputOf(agents[0]), agents, 0, count);
        }
    }

    /** All crowds that meetings can lead to; a crowd is a sorted row, so that its order is lost. */
    private static final class Search {
        private static final int SLOTS = 8192;
        private static final int SLOT_SHIFT = 51;
        private static final long MIX = 0x9E3779B97F4A7C15L;

        private final Formula formula;
        private final Meeting meeting;
        private final long[] rows = new long[MAX_LIMIT * MAX_EXPLORED_AGENTS];
        // A table of row numbers, open to the next slot when one is taken, so that finding is fast.
        private final int[] slots = new int[SLOTS];
        private final boolean[] endsRight = new boolean[MAX_LIMIT];
        private final long[] next = new long[MAX_EXPLORED_AGENTS];
        private int width;
        private int found;

        Search(Formula formula) {
            this.formula = formula;
            meeting = new Meeting(formula);
        }

        int findAll(Crowd crowd, int limit) {
            Arrays.fill(slots, NONE);
            width = crowd.count();
            found = 0;
            for (int k = 0; k < width; k++) {
                next[k] = crowd.agent(k);
            }
            sortNext();
            keepNext(slotOfNext());
            // Rows are added while they are gone through, at most as many as the limit.
            for (int row = 0; row < found && row < limit; row++) {
                if (!keepAllAfter(row, limit)) {
                    return NONE;
                }
            }
            return found;
        }

        private boolean keepAllAfter(int row, int limit) {
            for (int i = 0; i < width; i++) {
                for (int j = 0; j < width; j++) {
                    if (i != j && stepToNext(row, i, j)) {
                        int slot = slotOfNext();
                        if (slots[slot] == NONE) {
                            if (found == limit) {
                                return false;
                            }
                            keepNext(slot);
                        }
                    }
                }
            }
            return true;
        }

        /** Puts into next what a meeting makes of a row: whether it changes anything. */
        private boolean stepToNext(int row, int i, int j) {
            int from = row * width;
            if (!meeting.changes(rows[from + i], rows[from + j])) {
                return false;
            }
            for (int k = 0; k < width; k++) {
                next[k] = rows[from + k];
            }
            next[i] = meeting.first();
            next[j] = meeting.second();
            sortNext();
            return true;
        }

        private void sortNext() {
            for (int k = 1; k < width; k++) {
                long moved = next[k];
                int at = k;
                while (at > 0 && next[at - 1] > moved) {
                    next[at] = next[at - 1];
                    at--;
                }
                next[at] = moved;
            }
        }

        private void keepNext(int slot) {
            slots[slot] = found;
            for (int k = 0; k < width; k++) {
                rows[found * width + k] = next[k];
            }
            found++;
        }

        /** The slot that holds next, or the free one where it belongs; some are always free. */
        private int slotOfNext() {
            long mixed = 0;
            for (int k = 0; k < width; k++) {
                mixed = (mixed + next[k]) * MIX;
            }
            int slot = (int) (mixed >>> SLOT_SHIFT);
            for (int tries = 0; tries < SLOTS; tries++) {
                if (slots[slot] == NONE || isNext(slots[slot])) {
                    return slot;
                }
                slot = (slot + 1) % SLOTS;
            }
            return slot;
        }

        private boolean isNext(int row) {
            for (int k = 0; k < width; k++) {
                if (rows[row * width + k] != next[k]) {
                    return false;
                }
            }
            return true;
        }

        /** Whether from each row meetings can lead to a silent row whose outputs are all truth. */
        boolean allCanEndRight(boolean truth) {
            int missing = found;
            for (int row = 0; row < found; row++) {
                endsRight[row] = isRightEnd(row, truth);
                missing -= endsRight[row] ? 1 : 0;
            }
            // Backwards, since most meetings lead to later rows; a pass finds one more, or is the last.
            for (int pass = 0; pass < found && missing > 0; pass++) {
                int before = missing;
                for (int row = found - 1; row >= 0; row--) {
                    if (!endsRight[row] && leadsToRightEnd(row)) {
                        endsRight[row] = true;
                        missing--;
                    }
                }
                if (missing == before) {
                    return false;
                }
            }
            return missing == 0;
        }

        private boolean isRightEnd(int row, boolean truth) {
            int from = row * width;
            return formula.allOutputsAre(truth, rows, from, width) && meeting.changesNone(rows, from, width);
        }

        private boolean leadsToRightEnd(int row) {
            for (int i = 0; i < width; i++) {
                for (int j = 0; j < width; j++) {
                    if (i != j && stepToNext(row, i, j)) {
                        int after = slots[slotOfNext()];
                        if (after != NONE && endsRight[after]) {
                            return true;
                        }
                    }
                }
            }
            return false;
        }
    }
}
