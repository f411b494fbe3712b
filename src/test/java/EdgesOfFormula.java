/** The boundary cases of promises 1 to 7 (a formula is made and compiled), on both sides of each edge. */
public final class EdgesOfFormula extends Checks {
    public static void main(String[] args) {
        newHasNoNodes();
        newHasNoAgents();
        clearOfNew();
        clearOfPending();
        clearOfNodes();
        clearOfCompiled();
        clearOfAgents();
        clearOfExplored();
        clearOfFull();
        coefLetter();
        coefValue();
        coefWhenCompiled();
        sumTarget();
        sumWhenCompiled();
        sumAtoms();
        sumNodes();
        sumOrder();
        modArguments();
        modWhenCompiled();
        modAtoms();
        modNodes();
        modOrder();
        combineOp();
        combineLeft();
        combineRight();
        notLooksAtLeftAlone();
        combineWhenCompiled();
        combineNodes();
        combineOrder();
        compileNoNodes();
        compileTwiceInOthers();
        compileTwiceInOne();
        compileOutside();
        compileAlready();
        finish();
    }

    private static void newHasNoNodes() {
        sentence("Promise 1: no nodes");
        hasNoNodes(new CrowdDesk());
        CrowdDesk x = new CrowdDesk();
        due("the first node", x.sum(0), 0);
        due("then there is one", x.combine(2, 0, 0), 1);
    }

    private static void hasNoNodes(CrowdDesk x) {
        refused(STATE, "compile()", x::compile);
        refused(ARGUMENT, "combine(2, 0, 0)", () -> x.combine(2, 0, 0));
        refused(INDEX, "table(0, 0)", () -> x.table(0, 0));
        refused(INDEX, "rule(0, 0, 0)", () -> x.rule(0, 0, 0));
        refused(INDEX, "kind(0, 0, 0)", () -> x.kind(0, 0, 0));
        refused(STATE, "truth()", x::truth);
        refused(STATE, "add(0, 0)", () -> x.add(0, 0));
        refused(STATE, "add(0, 1)", () -> x.add(0, 1));
    }

    private static void newHasNoAgents() {
        sentence("Promise 1: no agents");
        hasNoAgents(new CrowdDesk());
        CrowdDesk compiled = difference(0);
        hasNoAgents(compiled);
        due("the first agent", compiled.add(0, 1), 1);
        due("then there is one", compiled.size(), 1);
    }

    private static void hasNoAgents(CrowdDesk x) {
        due("size()", x.size(), 0);
        due("silent()", x.silent(), true);
        due("agree()", x.agree(), true);
        due("sweep(1)", x.sweep(1), 0);
        refused(INDEX, "output(0)", () -> x.output(0));
        refused(INDEX, "state(0, 0, 0)", () -> x.state(0, 0, 0));
        refused(INDEX, "meet(0, 1)", () -> x.meet(0, 1));
        refused(STATE, "explore(1)", () -> x.explore(1));
        refused(STATE, "recovers()", x::recovers);
    }

    /** As at first: nothing is there, and a run of calls answers as on a new object. */
    private static void isAsAtFirst(CrowdDesk x) {
        due("a look", look(x), look(new CrowdDesk()));
        hasNoNodes(x);
        hasNoAgents(x);
        due("a run", run(x), run(new CrowdDesk()));
    }

    /** A run that sees whether atoms, nodes, agents or a search of before are still about. */
    private static String run(CrowdDesk x) {
        StringBuilder answers = new StringBuilder();
        for (int k = 0; k < 5; k++) {
            x.coef(k, k + 1);
            answers.append(x.coef(7, k)).append(' ').append(k % 2 == 0 ? x.sum(k) : x.mod(k, 5)).append(' ');
        }
        for (int k = 5; k < 20; k++) {
            answers.append(k < 9 ? x.combine(k % 2, k == 5 ? 0 : k - 1, k - 4) : x.combine(2, k - 1, 0)).append(' ');
        }
        answers.append(x.compile()).append(' ').append(x.truth()).append(' ').append(x.add(1, 1));
        answers.append(' ').append(x.add(4, 1)).append(' ').append(x.truth()).append(' ');
        answers.append(x.explore(3000)).append(' ').append(x.recovers()).append(' ').append(look(x));
        answers.append(' ').append(x.add(5, 198)).append(' ').append(x.sweep(2)).append(' ').append(look(x));
        return answers.toString();
    }

    private static void clearOfNew() {
        sentence("Promise 2: as at first, of a new object");
        CrowdDesk x = new CrowdDesk();
        x.clear();
        isAsAtFirst(x);
        CrowdDesk twice = new CrowdDesk();
        twice.clear();
        twice.clear();
        isAsAtFirst(twice);
    }

    private static void clearOfPending() {
        sentence("Promise 2: as at first, behind pending coefficients");
        CrowdDesk x = new CrowdDesk();
        for (int letter = 0; letter < 8; letter++) {
            x.coef(letter, 20);
        }
        x.clear();
        isAsAtFirst(x);
    }

    private static void clearOfNodes() {
        sentence("Promise 2: as at first, behind nodes");
        CrowdDesk x = nots(7);
        x.clear();
        isAsAtFirst(x);
        CrowdDesk refused = new CrowdDesk();
        refused.sum(0);
        refused.combine(0, 0, 0);
        refused(STATE, "compile() of a node twice", refused::compile);
        refused.clear();
        isAsAtFirst(refused);
    }

    private static void clearOfCompiled() {
        sentence("Promise 2: as at first, behind compile");
        CrowdDesk x = difference(0);
        x.clear();
        isAsAtFirst(x);
        CrowdDesk y = difference(0);
        y.coef(3, 3);
        y.clear();
        isAsAtFirst(y);
    }

    private static void clearOfAgents() {
        sentence("Promise 2: as at first, behind agents and meetings");
        CrowdDesk x = difference(0);
        x.add(0, 3);
        x.clear();
        isAsAtFirst(x);
        CrowdDesk met = rest(0, 2);
        met.add(1, 5);
        met.meet(0, 1);
        met.sweep(3);
        met.clear();
        isAsAtFirst(met);
    }

    private static void clearOfExplored() {
        sentence("Promise 2: as at first, behind an explore");
        CrowdDesk x = rest(0, 2);
        x.add(1, 3);
        x.explore(3000);
        x.clear();
        isAsAtFirst(x);
        CrowdDesk none = rest(0, 2);
        none.add(1, 3);
        none.explore(1);
        none.clear();
        isAsAtFirst(none);
        // The same crowd as before: what was explored was before clear.
        CrowdDesk again = rest(0, 2);
        again.add(1, 3);
        again.explore(3000);
        again.clear();
        again.coef(1, 1);
        again.mod(0, 2);
        again.compile();
        again.add(1, 3);
        refused(STATE, "recovers() of the same crowd", again::recovers);
        due("explore(3000)", again.explore(3000), 5);
        due("recovers()", again.recovers(), true);
    }

    private static void clearOfFull() {
        sentence("Promise 2: as at first, behind 5 atoms, 20 nodes and 200 agents");
        CrowdDesk x = new CrowdDesk();
        run(x);
        due("size()", x.size(), 200);
        x.clear();
        isAsAtFirst(x);
    }

    private static void coefLetter() {
        sentence("Promise 3: IllegalArgumentException, when there is no such letter");
        CrowdDesk x = new CrowdDesk();
        due("coef(0, 5)", x.coef(0, 5), 0);
        due("coef(7, 6)", x.coef(7, 6), 0);
        for (int letter : new int[] {-1, 8, LEAST, GREATEST}) {
            refused(ARGUMENT, "coef(" + letter + ", 9)", () -> x.coef(letter, 9));
        }
        due("coef(0, 0), what it was", x.coef(0, 0), 5);
        due("coef(7, 0), what it was", x.coef(7, 0), 6);
    }

    private static void coefValue() {
        sentence("Promise 3: IllegalArgumentException, when v is not -20 .. 20");
        CrowdDesk x = new CrowdDesk();
        due("coef(4, -20)", x.coef(4, -20), 0);
        refused(ARGUMENT, "coef(4, -21)", () -> x.coef(4, -21));
        due("coef(4, 20)", x.coef(4, 20), -20);
        refused(ARGUMENT, "coef(4, 21)", () -> x.coef(4, 21));
        refused(ARGUMENT, "coef(4, LEAST)", () -> x.coef(4, LEAST));
        refused(ARGUMENT, "coef(4, GREATEST)", () -> x.coef(4, GREATEST));
        refused(ARGUMENT, "coef(8, 21)", () -> x.coef(8, 21));
        due("coef(4, 0), what it was", x.coef(4, 0), 20);
        due("coef(4, 0) of 0", x.coef(4, 0), 0);
    }

    private static void coefWhenCompiled() {
        sentence("Promise 3: coef is not refused when the formula is compiled");
        CrowdDesk x = difference(0);
        x.add(0, 1);
        due("coef(0, 7)", x.coef(0, 7), 0);
        due("coef(0, 8)", x.coef(0, 8), 7);
        due("the agent's value stays", x.state(0, 0, 0), 1);
        due("add(0, 1)", x.add(0, 1), 2);
        due("a later agent's value, too", x.state(1, 0, 0), 1);
        refused(ARGUMENT, "coef(8, 0)", () -> x.coef(8, 0));
        refused(ARGUMENT, "coef(0, 21)", () -> x.coef(0, 21));
    }

    private static void sumTarget() {
        sentence("Promise 4: IllegalArgumentException, when c is not -20 .. 20");
        CrowdDesk x = new CrowdDesk();
        x.coef(2, 9);
        for (int c : new int[] {-21, 21, LEAST, GREATEST}) {
            refused(ARGUMENT, "sum(" + c + ")", () -> x.sum(c));
        }
        due("a refused one takes nothing", x.coef(2, 9), 9);
        due("sum(-20)", x.sum(-20), 0);
        due("sum(20)", x.sum(20), 1);
    }

    private static void sumWhenCompiled() {
        sentence("Promise 4: IllegalStateException, when the formula is compiled");
        CrowdDesk x = new CrowdDesk();
        x.sum(0);
        due("sum(0) before compile()", x.sum(0), 1);
        x.compile();
        x.coef(0, 3);
        String before = look(x);
        refused(STATE, "sum(0) behind compile()", () -> x.sum(0));
        due("a refused one changes nothing", look(x), before);
    }

    private static void sumAtoms() {
        sentence("Promise 4: IllegalStateException, when there are 5 atoms");
        CrowdDesk x = new CrowdDesk();
        for (int atom = 0; atom < 5; atom++) {
            due("sum(" + atom + ")", x.sum(atom), atom);
        }
        x.coef(0, 3);
        String before = look(x);
        refused(STATE, "sum(0) as the 6th", () -> x.sum(0));
        due("a refused one changes nothing", look(x), before);
        due("the next node", x.combine(2, 4, 0), 5);
        CrowdDesk mixed = new CrowdDesk();
        for (int atom = 0; atom < 4; atom++) {
            mixed.mod(0, 2);
        }
        due("sum(0) as the 5th", mixed.sum(0), 4);
        refused(STATE, "sum(0) as the 6th", () -> mixed.sum(0));
    }

    private static void sumNodes() {
        sentence("Promise 4: IllegalStateException, when there are 20 nodes");
        CrowdDesk x = nots(19);
        due("sum(0) as the 20th", x.sum(0), 19);
        String before = look(x);
        refused(STATE, "sum(0) as the 21st", () -> x.sum(0));
        due("a refused one changes nothing", look(x), before);
    }

    private static void sumOrder() {
        sentence("Promise 4: the argument is looked at first");
        CrowdDesk compiled = difference(0);
        refused(ARGUMENT, "sum(21) when compiled", () -> compiled.sum(21));
        CrowdDesk full = nots(20);
        refused(ARGUMENT, "sum(-21) with 20 nodes", () -> full.sum(-21));
    }

    private static void modArguments() {
        sentence("Promise 5: IllegalArgumentException, when m or r is not as said");
        CrowdDesk x = new CrowdDesk();
        x.coef(2, 9);
        refused(ARGUMENT, "mod(0, 1)", () -> x.mod(0, 1));
        refused(ARGUMENT, "mod(0, 17)", () -> x.mod(0, 17));
        refused(ARGUMENT, "mod(0, 0)", () -> x.mod(0, 0));
        refused(ARGUMENT, "mod(-3, -2)", () -> x.mod(-3, -2));
        refused(ARGUMENT, "mod(0, LEAST)", () -> x.mod(0, LEAST));
        refused(ARGUMENT, "mod(0, GREATEST)", () -> x.mod(0, GREATEST));
        refused(ARGUMENT, "mod(-1, 2)", () -> x.mod(-1, 2));
        refused(ARGUMENT, "mod(2, 2)", () -> x.mod(2, 2));
        refused(ARGUMENT, "mod(-1, 16)", () -> x.mod(-1, 16));
        refused(ARGUMENT, "mod(16, 16)", () -> x.mod(16, 16));
        refused(ARGUMENT, "mod(LEAST, 2)", () -> x.mod(LEAST, 2));
        refused(ARGUMENT, "mod(GREATEST, 2)", () -> x.mod(GREATEST, 2));
        due("a refused one takes nothing", x.coef(2, 9), 9);
        due("mod(0, 2)", x.mod(0, 2), 0);
        due("mod(1, 2)", x.mod(1, 2), 1);
        due("mod(0, 16)", x.mod(0, 16), 2);
        due("mod(15, 16)", x.mod(15, 16), 3);
    }

    private static void modWhenCompiled() {
        sentence("Promise 5: IllegalStateException, when the formula is compiled");
        CrowdDesk x = new CrowdDesk();
        x.sum(0);
        due("mod(0, 2) before compile()", x.mod(0, 2), 1);
        x.compile();
        x.coef(0, 3);
        String before = look(x);
        refused(STATE, "mod(0, 2) behind compile()", () -> x.mod(0, 2));
        due("a refused one changes nothing", look(x), before);
    }

    private static void modAtoms() {
        sentence("Promise 5: IllegalStateException, when there are 5 atoms");
        CrowdDesk x = new CrowdDesk();
        for (int atom = 0; atom < 5; atom++) {
            due("mod(" + atom + ", 5)", x.mod(atom, 5), atom);
        }
        x.coef(0, 3);
        String before = look(x);
        refused(STATE, "mod(0, 5) as the 6th", () -> x.mod(0, 5));
        due("a refused one changes nothing", look(x), before);
        due("the next node", x.combine(2, 4, 0), 5);
        CrowdDesk mixed = new CrowdDesk();
        for (int atom = 0; atom < 4; atom++) {
            mixed.sum(0);
        }
        due("mod(0, 2) as the 5th", mixed.mod(0, 2), 4);
        refused(STATE, "mod(0, 2) as the 6th", () -> mixed.mod(0, 2));
    }

    private static void modNodes() {
        sentence("Promise 5: IllegalStateException, when there are 20 nodes");
        CrowdDesk x = nots(19);
        due("mod(0, 2) as the 20th", x.mod(0, 2), 19);
        String before = look(x);
        refused(STATE, "mod(0, 2) as the 21st", () -> x.mod(0, 2));
        due("a refused one changes nothing", look(x), before);
    }

    private static void modOrder() {
        sentence("Promise 5: the arguments are looked at first");
        CrowdDesk compiled = difference(0);
        refused(ARGUMENT, "mod(0, 1) when compiled", () -> compiled.mod(0, 1));
        CrowdDesk full = nots(20);
        refused(ARGUMENT, "mod(2, 2) with 20 nodes", () -> full.mod(2, 2));
    }

    /** Three atoms: 0 >= 0, 0 >= 1, 0 >= 0. */
    private static CrowdDesk threeAtoms() {
        CrowdDesk x = new CrowdDesk();
        x.sum(0);
        x.sum(1);
        x.sum(0);
        return x;
    }

    private static void combineOp() {
        sentence("Promise 6: IllegalArgumentException, when op is none");
        CrowdDesk x = threeAtoms();
        for (int op : new int[] {-1, 3, LEAST, GREATEST}) {
            refused(ARGUMENT, "combine(" + op + ", 0, 1)", () -> x.combine(op, 0, 1));
        }
        for (int op = 0; op < 3; op++) {
            CrowdDesk y = threeAtoms();
            due("combine(" + op + ", 0, 1)", y.combine(op, 0, 1), 3);
            y.compile();
            due("AND of true and false, OR of them, NOT of true", y.truth(), op == 1);
        }
        due("a refused one makes no node", x.sum(0), 3);
    }

    private static void combineLeft() {
        sentence("Promise 6: IllegalArgumentException, when the left node is none");
        for (int op = 0; op < 3; op++) {
            int asked = op;
            CrowdDesk x = threeAtoms();
            for (int left : new int[] {-1, 3, 4, LEAST, GREATEST}) {
                refused(ARGUMENT, "combine(" + op + ", " + left + ", 0)", () -> x.combine(asked, left, 0));
            }
            due("combine(" + op + ", 0, 1)", x.combine(op, 0, 1), 3);
            due("combine(" + op + ", 3, 2), of the last node", x.combine(op, 3, 2), 4);
        }
    }

    private static void combineRight() {
        sentence("Promise 6: IllegalArgumentException, when the right node of AND or OR is none");
        for (int op = 0; op < 2; op++) {
            int asked = op;
            CrowdDesk x = threeAtoms();
            for (int right : new int[] {-1, 3, 4, LEAST, GREATEST}) {
                refused(ARGUMENT, "combine(" + op + ", 0, " + right + ")", () -> x.combine(asked, 0, right));
            }
            due("combine(" + op + ", 1, 0)", x.combine(op, 1, 0), 3);
            due("combine(" + op + ", 2, 3), of the last node", x.combine(op, 2, 3), 4);
        }
    }

    private static void notLooksAtLeftAlone() {
        sentence("Promise 6: NOT of left, right is not looked at");
        for (int right : new int[] {0, 1, 2, 3, 4, -1, 20, LEAST, GREATEST}) {
            CrowdDesk x = threeAtoms();
            due("combine(2, 1, " + right + ")", x.combine(2, 1, right), 3);
            due("AND with another", x.combine(0, 3, 0), 4);
            x.combine(1, 4, 2);
            due("right is no part of it", x.compile() > 0, true);
            due("truth()", x.truth(), true);
        }
        CrowdDesk none = threeAtoms();
        refused(ARGUMENT, "combine(2, 3, 0), left is none", () -> none.combine(2, 3, 0));
    }

    private static void combineWhenCompiled() {
        sentence("Promise 6: IllegalStateException, when the formula is compiled");
        CrowdDesk x = threeAtoms();
        due("combine(2, 0, 0) before compile()", x.combine(2, 0, 0), 3);
        x.compile();
        String before = look(x);
        for (int op = 0; op < 3; op++) {
            int asked = op;
            refused(STATE, "combine(" + op + ", 1, 2) behind compile()", () -> x.combine(asked, 1, 2));
        }
        due("a refused one changes nothing", look(x), before);
    }

    private static void combineNodes() {
        sentence("Promise 6: IllegalStateException, when there are 20 nodes");
        for (int op = 0; op < 3; op++) {
            int asked = op;
            CrowdDesk x = nots(19);
            due("combine(" + op + ", 18, 17) as the 20th", x.combine(op, 18, 17), 19);
            refused(STATE, "combine(" + op + ", 19, 18) as the 21st", () -> x.combine(asked, 19, 18));
            refused(ARGUMENT, "there is no 21st", () -> x.combine(2, 20, 0));
        }
        CrowdDesk atoms = new CrowdDesk();
        for (int atom = 0; atom < 5; atom++) {
            atoms.sum(0);
        }
        due("5 atoms do not matter", atoms.combine(0, 0, 4), 5);
    }

    private static void combineOrder() {
        sentence("Promise 6: the arguments are looked at first");
        CrowdDesk compiled = difference(0);
        refused(ARGUMENT, "combine(3, 0, 0) when compiled", () -> compiled.combine(3, 0, 0));
        refused(ARGUMENT, "combine(2, 1, 0) when compiled", () -> compiled.combine(2, 1, 0));
        refused(ARGUMENT, "combine(0, 0, 1) when compiled", () -> compiled.combine(0, 0, 1));
        refused(STATE, "combine(2, 0, 1) when compiled", () -> compiled.combine(2, 0, 1));
        CrowdDesk full = nots(20);
        refused(ARGUMENT, "combine(-1, 0, 0) with 20 nodes", () -> full.combine(-1, 0, 0));
        refused(ARGUMENT, "combine(0, 0, 20) with 20 nodes", () -> full.combine(0, 0, 20));
    }

    private static void compileNoNodes() {
        sentence("Promise 7: IllegalStateException, when there are no nodes");
        CrowdDesk x = new CrowdDesk();
        refused(STATE, "compile() of nothing", x::compile);
        x.coef(0, 1);
        refused(STATE, "compile() of a pending coefficient", x::compile);
        refused(STATE, "it is not compiled then", x::truth);
        due("sum(1)", x.sum(1), 0);
        // s is 2. Leading: 0, 1, 2. Not leading: 0 (either opinion), 1, 2.
        due("compile() of one node", x.compile(), 7);
        due("it is compiled then", x.truth(), false);
    }

    private static void compileTwiceInOthers() {
        sentence("Promise 7: IllegalStateException, when a node is a part of others twice");
        for (int first = 0; first < 3; first++) {
            for (int second = 0; second < 3; second++) {
                CrowdDesk shared = threeAtoms();
                shared.combine(first, 0, 1);
                shared.combine(second, 0, 2);
                refused(STATE, "compile() of ops " + first + " and " + second, shared::compile);
                refused(STATE, "it is not compiled then", shared::truth);
                refused(STATE, "still", shared::compile);
                CrowdDesk once = threeAtoms();
                once.combine(first, 0, 1);
                once.combine(second, 2, 3);
                due("compile() with each node once", once.compile(), 6);
            }
        }
        CrowdDesk byRight = threeAtoms();
        byRight.combine(0, 0, 1);
        byRight.combine(1, 2, 1);
        refused(STATE, "compile() of a node that is right twice", byRight::compile);
        CrowdDesk crossed = threeAtoms();
        crossed.combine(0, 0, 1);
        crossed.combine(1, 1, 2);
        refused(STATE, "compile() of a node that is right and left", crossed::compile);
        CrowdDesk deep = threeAtoms();
        deep.combine(2, 0, 0);
        deep.combine(2, 3, 0);
        deep.combine(0, 4, 3);
        refused(STATE, "compile() of a node that is no atom", deep::compile);
        CrowdDesk last = nots(18);
        last.combine(2, 17, 0);
        due("compile() of a chain", last.compile(), 2);
        CrowdDesk full = nots(19);
        full.combine(2, 17, 0);
        refused(STATE, "compile() with the 20th node", full::compile);
    }

    private static void compileTwiceInOne() {
        sentence("Promise 7: IllegalStateException, when a node is a part of one twice");
        for (int op = 0; op < 2; op++) {
            CrowdDesk x = new CrowdDesk();
            x.sum(0);
            due("combine(" + op + ", 0, 0) makes a node", x.combine(op, 0, 0), 1);
            refused(STATE, "compile()", x::compile);
            refused(STATE, "it is not compiled then", () -> x.add(0, 1));
            due("another node", x.sum(0), 2);
            refused(STATE, "compile() does not forget", x::compile);
        }
        CrowdDesk not = new CrowdDesk();
        not.sum(0);
        not.combine(2, 0, 0);
        due("NOT has one part", not.compile(), 2);
        CrowdDesk two = threeAtoms();
        two.combine(0, 0, 1);
        due("AND of two nodes", two.compile(), 6);
    }

    private static void compileOutside() {
        sentence("Promise 7: nodes that are parts of nothing, or of nothing that counts");
        due("compile() of three atoms", threeAtoms().compile(), 6);
        CrowdDesk outside = threeAtoms();
        outside.combine(2, 0, 0);
        outside.combine(2, 0, 0);
        outside.combine(2, 1, 0);
        refused(STATE, "compile() with a node twice a part outside the last one", outside::compile);
    }

    private static void compileAlready() {
        sentence("Promise 7: IllegalStateException, when it is compiled already");
        CrowdDesk x = new CrowdDesk();
        x.sum(0);
        due("compile()", x.compile(), 2);
        x.add(0, 3);
        x.explore(3000);
        String before = look(x);
        refused(STATE, "compile() again", x::compile);
        refused(STATE, "and again", x::compile);
        due("a refused one changes nothing", look(x), before);
        x.clear();
        x.sum(0);
        due("compile() behind clear()", x.compile(), 2);
    }
}
