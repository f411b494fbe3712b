/** Each promise of the document by hand: ordinary inputs, the edges it names, and wrong inputs. */
public final class CrowdDeskPromises extends Checks {
    public static void main(String[] args) {
        newObject();
        clear();
        coef();
        sum();
        mod();
        combine();
        compile();
        add();
        size();
        meet();
        sweep();
        output();
        state();
        truth();
        silent();
        agree();
        explore();
        recovers();
        table();
        rule();
        kind();
        finish();
    }

    private static void looksNew(CrowdDesk x) {
        due("size()", x.size(), 0);
        due("silent()", x.silent(), true);
        due("agree()", x.agree(), true);
        due("sweep(500)", x.sweep(500), 0);
        refused(STATE, "compile() without nodes", x::compile);
        refused(STATE, "truth() without a formula", x::truth);
        refused(STATE, "explore(1) without agents", () -> x.explore(1));
        refused(STATE, "recovers() without explore", x::recovers);
        refused(STATE, "add(0, 0) without a formula", () -> x.add(0, 0));
        refused(INDEX, "output(0)", () -> x.output(0));
        refused(INDEX, "state(0, 0, 0)", () -> x.state(0, 0, 0));
        refused(INDEX, "meet(0, 1)", () -> x.meet(0, 1));
        refused(INDEX, "table(0, 0)", () -> x.table(0, 0));
        refused(ARGUMENT, "combine(2, 0, 0)", () -> x.combine(2, 0, 0));
        for (int letter = 0; letter < 8; letter++) {
            due("pending of " + letter, x.coef(letter, 0), 0);
        }
        due("first node", x.sum(1), 0);
    }

    private static void newObject() {
        sentence("Promise 1 new");
        due("NONE", CrowdDesk.NONE, -1);
        looksNew(new CrowdDesk());
    }

    private static void clear() {
        sentence("Promise 2 clear");
        CrowdDesk x = difference(0);
        x.add(0, 2);
        x.add(1, 1);
        x.explore(3000);
        x.coef(7, 9);
        x.clear();
        looksNew(x);
        due("compile() behind clear", x.compile(), 2);
        due("truth() of no agents", x.truth(), false);
        due("add(1, 1)", x.add(1, 1), 1);
        due("letters counted anew", x.truth(), false);
        due("the old coefficient", x.state(0, 0, 0), 0);
        CrowdDesk y = difference(1);
        y.add(0, 3);
        y.clear();
        y.coef(0, 1);
        y.sum(1);
        y.compile();
        due("truth() without the old agents", y.truth(), false);
        CrowdDesk z = new CrowdDesk();
        for (int k = 0; k < 5; k++) {
            z.sum(k);
        }
        z.clear();
        for (int k = 0; k < 5; k++) {
            due("sum behind clear", z.sum(k), k);
        }
    }

    private static void coef() {
        sentence("Promise 3 coef");
        CrowdDesk x = new CrowdDesk();
        due("coef(0, 20)", x.coef(0, 20), 0);
        due("coef(0, -20)", x.coef(0, -20), 20);
        due("coef(7, 3)", x.coef(7, 3), 0);
        due("coef(7, 4)", x.coef(7, 4), 3);
        refused(ARGUMENT, "coef(-1, 0)", () -> x.coef(-1, 0));
        refused(ARGUMENT, "coef(8, 0)", () -> x.coef(8, 0));
        refused(ARGUMENT, "coef(0, 21)", () -> x.coef(0, 21));
        refused(ARGUMENT, "coef(0, -21)", () -> x.coef(0, -21));
        refused(ARGUMENT, "coef(MIN, MAX)", () -> x.coef(Integer.MIN_VALUE, Integer.MAX_VALUE));
        due("coef(0, 1), refused ones left it", x.coef(0, 1), -20);
        refused(ARGUMENT, "sum(21)", () -> x.sum(21));
        due("coef(0, 2), a refused atom took nothing", x.coef(0, 2), 1);
        x.sum(0);
        due("coef(0, 5) behind an atom", x.coef(0, 5), 0);
        due("coef(7, 6) behind an atom", x.coef(7, 6), 0);
        x.mod(0, 7);
        due("coef(0, 9) behind an atom", x.coef(0, 9), 0);
        x.compile();
        due("coef(0, 10) when compiled", x.coef(0, 10), 9);
        x.add(0, 1);
        x.add(7, 1);
        x.add(1, 1);
        due("atom 0 of letter 0", x.state(0, 0, 0), 2);
        due("atom 0 of letter 7", x.state(1, 0, 0), 4);
        due("atom 0 of letter 1", x.state(2, 0, 0), 0);
        due("atom 1 of letter 0", x.state(0, 1, 0), 5);
        due("atom 1 of letter 7", x.state(1, 1, 0), 6);
    }

    private static void sum() {
        sentence("Promise 4 sum");
        CrowdDesk x = new CrowdDesk();
        refused(ARGUMENT, "sum(21)", () -> x.sum(21));
        refused(ARGUMENT, "sum(-21)", () -> x.sum(-21));
        due("sum(20)", x.sum(20), 0);
        due("sum(-20)", x.sum(-20), 1);
        due("combine(0, 0, 1)", x.combine(0, 0, 1), 2);
        due("sum(0)", x.sum(0), 3);
        due("mod(0, 2)", x.mod(0, 2), 4);
        due("sum(1)", x.sum(1), 5);
        refused(STATE, "sum(1) with 5 atoms", () -> x.sum(1));
        refused(ARGUMENT, "sum(21) with 5 atoms", () -> x.sum(21));
        CrowdDesk y = nots(19);
        due("sum(0) as node 19", y.sum(0), 19);
        refused(STATE, "sum(0) with 20 nodes", () -> y.sum(0));
        CrowdDesk z = difference(0);
        refused(STATE, "sum(0) when compiled", () -> z.sum(0));
        refused(ARGUMENT, "sum(-21) when compiled", () -> z.sum(-21));
        // c itself counts, one less does not.
        CrowdDesk u = difference(3);
        u.add(0, 2);
        due("2 >= 3", u.truth(), false);
        u.add(0, 1);
        due("3 >= 3", u.truth(), true);
        u.add(1, 1);
        due("3 - 1 >= 3", u.truth(), false);
    }

    private static void mod() {
        sentence("Promise 5 mod");
        CrowdDesk x = new CrowdDesk();
        refused(ARGUMENT, "mod(0, 1)", () -> x.mod(0, 1));
        refused(ARGUMENT, "mod(0, 0)", () -> x.mod(0, 0));
        refused(ARGUMENT, "mod(0, -3)", () -> x.mod(0, -3));
        refused(ARGUMENT, "mod(0, 17)", () -> x.mod(0, 17));
        refused(ARGUMENT, "mod(-1, 2)", () -> x.mod(-1, 2));
        refused(ARGUMENT, "mod(2, 2)", () -> x.mod(2, 2));
        refused(ARGUMENT, "mod(16, 16)", () -> x.mod(16, 16));
        due("mod(1, 2)", x.mod(1, 2), 0);
        due("mod(0, 2)", x.mod(0, 2), 1);
        due("mod(15, 16)", x.mod(15, 16), 2);
        due("mod(0, 16)", x.mod(0, 16), 3);
        due("mod(4, 5)", x.mod(4, 5), 4);
        refused(STATE, "mod(0, 2) with 5 atoms", () -> x.mod(0, 2));
        refused(ARGUMENT, "mod(2, 2) with 5 atoms", () -> x.mod(2, 2));
        CrowdDesk y = nots(20);
        refused(STATE, "mod(0, 2) with 20 nodes", () -> y.mod(0, 2));
        CrowdDesk z = difference(0);
        refused(STATE, "mod(0, 2) when compiled", () -> z.mod(0, 2));
        CrowdDesk u = new CrowdDesk();
        u.coef(0, -5);
        u.mod(1, 3);
        u.compile();
        u.add(0, 1);
        due("-5 is 1 more than -6", u.truth(), true);
        due("-5 brought to 0 .. 2", u.state(0, 0, 0), 1);
        u.add(0, 1);
        due("-10 is 2 more than -12", u.truth(), false);
        u.add(0, 2);
        due("-20 is 1 more than -21", u.truth(), true);
    }

    private static void combine() {
        sentence("Promise 6 combine");
        CrowdDesk x = new CrowdDesk();
        refused(ARGUMENT, "combine(0, 0, 0) without nodes", () -> x.combine(0, 0, 0));
        x.sum(0);
        x.sum(1);
        refused(ARGUMENT, "combine(3, 0, 1)", () -> x.combine(3, 0, 1));
        refused(ARGUMENT, "combine(-1, 0, 1)", () -> x.combine(-1, 0, 1));
        refused(ARGUMENT, "combine(0, 2, 1)", () -> x.combine(0, 2, 1));
        refused(ARGUMENT, "combine(0, 0, 2)", () -> x.combine(0, 0, 2));
        refused(ARGUMENT, "combine(1, -1, 0)", () -> x.combine(1, -1, 0));
        refused(ARGUMENT, "combine(1, 0, -1)", () -> x.combine(1, 0, -1));
        refused(ARGUMENT, "combine(2, 2, 0)", () -> x.combine(2, 2, 0));
        due("combine(2, 0, 99)", x.combine(2, 0, 99), 2);
        due("combine(2, 1, -99)", x.combine(2, 1, -99), 3);
        due("combine(1, 2, 3)", x.combine(1, 2, 3), 4);
        x.compile();
        refused(STATE, "combine(2, 4, 0) when compiled", () -> x.combine(2, 4, 0));
        refused(ARGUMENT, "combine(2, 5, 0) when compiled", () -> x.combine(2, 5, 0));
        CrowdDesk y = nots(20);
        refused(STATE, "combine(2, 19, 0) with 20 nodes", () -> y.combine(2, 19, 0));
        refused(ARGUMENT, "combine(2, 20, 0) with 20 nodes", () -> y.combine(2, 20, 0));
        for (int first = 0; first < 2; first++) {
            for (int second = 0; second < 2; second++) {
                int f = first;
                int s = second;
                due("AND of " + f + " and " + s, combined(0, f, s).truth(), f == 1 && s == 1);
                due("OR of " + f + " and " + s, combined(1, f, s).truth(), f == 1 || s == 1);
                due("NOT of " + f, combined(2, f, s).truth(), f == 0);
            }
        }
    }

    /** x_0 >= 1 and x_1 >= 1 joined by op, with so many agents of letters 0 and 1. */
    private static CrowdDesk combined(int op, int first, int second) {
        CrowdDesk x = new CrowdDesk();
        x.coef(0, 1);
        x.sum(1);
        x.coef(1, 1);
        x.sum(1);
        x.combine(op, 0, 1);
        x.compile();
        x.add(0, first);
        x.add(1, second);
        return x;
    }

    private static void compile() {
        sentence("Promise 7 compile");
        CrowdDesk x = new CrowdDesk();
        refused(STATE, "compile() without nodes", x::compile);
        x.sum(0);
        due("compile() of 0 >= 0", x.compile(), 2);
        refused(STATE, "compile() again", x::compile);
        CrowdDesk y = new CrowdDesk();
        y.coef(1, 1);
        y.mod(0, 2);
        y.sum(0);
        due("compile() counts atoms outside the formula", y.compile(), 4 + 2);
        CrowdDesk same = new CrowdDesk();
        same.sum(0);
        same.combine(0, 0, 0);
        refused(STATE, "compile() of a node twice in one", same::compile);
        CrowdDesk shared = new CrowdDesk();
        shared.sum(0);
        shared.sum(0);
        shared.combine(2, 0, 1);
        shared.combine(1, 1, 0);
        refused(STATE, "compile() of a node in two", shared::compile);
        refused(STATE, "it is not compiled then", shared::truth);
        due("and can be changed", shared.combine(2, 3, 0), 4);
        refused(STATE, "compile() still", shared::compile);
        CrowdDesk outside = new CrowdDesk();
        outside.sum(0);
        outside.combine(2, 0, 0);
        outside.combine(2, 0, 0);
        outside.sum(0);
        refused(STATE, "compile() of a node in two outside the formula", outside::compile);
        CrowdDesk right = new CrowdDesk();
        right.sum(0);
        right.combine(2, 0, 0);
        right.combine(2, 1, 0);
        due("the right of NOT is no part", right.compile(), 2);
        CrowdDesk chain = nots(20);
        due("compile() of 20 nodes", chain.compile(), 2);
        due("19 times NOT", chain.truth(), false);
        CrowdDesk wide = new CrowdDesk();
        wide.coef(0, 20);
        wide.coef(1, -1);
        wide.sum(20);
        // 43 values, leading with one opinion, the others with two where a leader's can go so.
        due("compile() with s = 21", wide.compile() > 86, true);
    }

    private static void add() {
        sentence("Promise 8 add");
        CrowdDesk x = new CrowdDesk();
        x.coef(0, 3);
        x.coef(7, -2);
        x.sum(1);
        refused(STATE, "add(0, 1) when not compiled", () -> x.add(0, 1));
        refused(ARGUMENT, "add(8, 1) when not compiled", () -> x.add(8, 1));
        x.compile();
        refused(ARGUMENT, "add(8, 1)", () -> x.add(8, 1));
        refused(ARGUMENT, "add(-1, 1)", () -> x.add(-1, 1));
        refused(ARGUMENT, "add(0, -1)", () -> x.add(0, -1));
        due("add(0, 0)", x.add(0, 0), 0);
        due("add(0, 2)", x.add(0, 2), 2);
        due("add(7, 1)", x.add(7, 1), 3);
        due("value of letter 0", x.state(1, 0, 0), 3);
        due("it leads", x.state(1, 0, 1), 1);
        due("its opinion", x.state(1, 0, 2), 1);
        due("value of letter 7", x.state(2, 0, 0), -2);
        due("its opinion", x.state(2, 0, 2), 0);
        refused(STATE, "add(0, 198)", () -> x.add(0, 198));
        refused(STATE, "add(0, MAX)", () -> x.add(0, Integer.MAX_VALUE));
        due("size() behind the refused ones", x.size(), 3);
        due("add(1, 197)", x.add(1, 197), 200);
        refused(STATE, "add(1, 1) to 200", () -> x.add(1, 1));
        due("add(1, 0) to 200", x.add(1, 0), 200);
        due("truth() counts 3 + 3 - 2", x.truth(), true);
    }

    private static void size() {
        sentence("Promise 9 size");
        CrowdDesk x = difference(0);
        due("size() at first", x.size(), 0);
        x.add(0, 7);
        x.add(3, 2);
        due("size()", x.size(), 9);
        x.sweep(2);
        due("size() behind sweeps", x.size(), 9);
    }

    private static void meet() {
        sentence("Promise 10 meet");
        // s is the greatest of 2, 3 and |1| + 1.
        CrowdDesk x = new CrowdDesk();
        x.coef(0, 2);
        x.coef(1, -3);
        x.sum(1);
        x.compile();
        x.add(0, 2);
        x.add(1, 3);
        refused(ARGUMENT, "meet(1, 1)", () -> x.meet(1, 1));
        refused(ARGUMENT, "meet(99, 99)", () -> x.meet(99, 99));
        refused(INDEX, "meet(0, 5)", () -> x.meet(0, 5));
        refused(INDEX, "meet(-1, 0)", () -> x.meet(-1, 0));
        refused(INDEX, "meet(5, 4)", () -> x.meet(5, 4));
        due("meet(1, 0)", x.meet(1, 0), true);
        expectState(x, 1, 0, 3, 1, 1);
        expectState(x, 0, 0, 1, 0, 1);
        due("meet(1, 0) again", x.meet(1, 0), false);
        due("meet(0, 1)", x.meet(0, 1), false);
        due("meet(0, 2)", x.meet(0, 2), true);
        expectState(x, 0, 0, 0, 0, 0);
        expectState(x, 2, 0, -2, 1, 0);
        due("meet(3, 2)", x.meet(3, 2), true);
        expectState(x, 3, 0, -3, 1, 0);
        expectState(x, 2, 0, -2, 0, 0);
        due("meet(2, 0), neither leads", x.meet(2, 0), false);
        due("meet(0, 1) changes an opinion alone", x.meet(0, 1), true);
        expectState(x, 0, 0, 0, 0, 1);
        expectState(x, 1, 0, 3, 1, 1);
        due("meet(4, 1)", x.meet(4, 1), true);
        expectState(x, 4, 0, 0, 1, 0);
        expectState(x, 1, 0, 0, 0, 0);
        CrowdDesk y = rest(2, 3);
        y.add(1, 4);
        y.meet(0, 1);
        expectState(y, 0, 0, 2, 1, 1);
        expectState(y, 1, 0, 0, 0, 1);
        due("meet(0, 2)", y.meet(0, 2), true);
        expectState(y, 0, 0, 0, 1, 0);
        expectState(y, 2, 0, 0, 0, 0);
        due("meet(1, 3)", y.meet(1, 3), true);
        expectState(y, 3, 0, 1, 1, 0);
        expectState(y, 1, 0, 0, 0, 0);
    }

    private static void sweep() {
        sentence("Promise 11 sweep");
        CrowdDesk x = rest(0, 2);
        refused(ARGUMENT, "sweep(0)", () -> x.sweep(0));
        refused(ARGUMENT, "sweep(-1)", () -> x.sweep(-1));
        refused(ARGUMENT, "sweep(501)", () -> x.sweep(501));
        due("sweep(1) of nobody", x.sweep(1), 0);
        x.add(1, 1);
        due("sweep(1) of one", x.sweep(1), 0);
        x.add(1, 2);
        // 0 meets 1: value 0, both true. 0 meets 2: value 1, both false. 1 meets 2: nothing.
        due("sweep(1)", x.sweep(1), 2);
        expectState(x, 0, 0, 1, 1, 0);
        expectState(x, 1, 0, 0, 0, 1);
        // 0 meets 1, which then thinks false.
        due("sweep(1) again", x.sweep(1), 1);
        expectState(x, 1, 0, 0, 0, 0);
        due("sweep(500)", x.sweep(500), 0);
        CrowdDesk y = rest(0, 2);
        y.add(1, 3);
        due("sweep(2)", y.sweep(2), 3);
        // The leader is the last: all meetings of the others come too early to matter.
        CrowdDesk z = rest(0, 2);
        z.add(1, 3);
        z.meet(2, 0);
        z.meet(2, 1);
        expectState(z, 2, 0, 1, 1, 0);
        due("sweep(1), leader last", z.sweep(1), 1);
        expectState(z, 0, 0, 0, 0, 0);
        // Two atoms that change in one meeting are one change.
        CrowdDesk two = new CrowdDesk();
        two.sum(0);
        two.sum(1);
        two.compile();
        two.add(0, 4);
        due("sweep(1) of two atoms", two.sweep(1), 3);
        // s = 1: agent 0 takes 1, then lets each -1 and 1 cancel, two of each kind in a sweep.
        CrowdDesk many = difference(0);
        many.add(0, 100);
        many.add(1, 100);
        many.sweep(500);
        due("silent() behind 500 sweeps", many.silent(), true);
        due("value of the leader", many.state(0, 0, 0), 0);
        due("output(199)", many.output(199), true);
    }

    private static void output() {
        sentence("Promise 12 output");
        CrowdDesk x = new CrowdDesk();
        x.coef(0, 1);
        x.sum(1);
        x.coef(1, 1);
        x.mod(1, 2);
        x.combine(2, 1, 0);
        x.combine(0, 0, 2);
        x.compile();
        x.add(0, 1);
        x.add(1, 1);
        x.add(2, 1);
        due("output(0): true and not false", x.output(0), true);
        due("output(1): false and not true", x.output(1), false);
        due("output(2): false and not false", x.output(2), false);
        refused(INDEX, "output(3)", () -> x.output(3));
        refused(INDEX, "output(-1)", () -> x.output(-1));
        x.meet(0, 1);
        due("output(0): true and not true", x.output(0), false);
        CrowdDesk last = new CrowdDesk();
        last.sum(0);
        last.sum(1);
        last.compile();
        last.add(0, 1);
        due("the last node alone counts", last.output(0), false);
    }

    private static void state() {
        sentence("Promise 13 state");
        CrowdDesk x = new CrowdDesk();
        x.coef(0, 20);
        x.sum(-20);
        x.coef(0, -20);
        x.mod(12, 16);
        x.compile();
        x.add(0, 2);
        due("value of SUM", x.state(0, 0, 0), 20);
        due("value of MOD", x.state(0, 1, 0), 12);
        due("leads", x.state(0, 1, 1), 1);
        due("opinion of SUM", x.state(0, 0, 2), 1);
        due("opinion of MOD", x.state(0, 1, 2), 1);
        x.meet(0, 1);
        due("at most 21", x.state(0, 0, 0), 21);
        due("what is left", x.state(1, 0, 0), 19);
        due("24 less 16", x.state(0, 1, 0), 8);
        due("the other of MOD", x.state(1, 1, 0), 0);
        due("does not lead", x.state(1, 1, 1), 0);
        due("opinion", x.state(1, 1, 2), 0);
        refused(INDEX, "state(2, 0, 0)", () -> x.state(2, 0, 0));
        refused(INDEX, "state(-1, 0, 0)", () -> x.state(-1, 0, 0));
        refused(INDEX, "state(0, 2, 0)", () -> x.state(0, 2, 0));
        refused(INDEX, "state(0, -1, 0)", () -> x.state(0, -1, 0));
        refused(INDEX, "state(0, 0, 3)", () -> x.state(0, 0, 3));
        refused(INDEX, "state(0, 0, -1)", () -> x.state(0, 0, -1));
    }

    private static void truth() {
        sentence("Promise 14 truth");
        CrowdDesk x = new CrowdDesk();
        x.coef(0, 20);
        x.coef(7, -20);
        x.sum(20);
        refused(STATE, "truth() when not compiled", x::truth);
        x.compile();
        due("truth() of nobody", x.truth(), false);
        x.add(0, 100);
        due("truth() of 2000", x.truth(), true);
        x.add(7, 99);
        due("truth() of 20", x.truth(), true);
        x.add(3, 0);
        x.sweep(5);
        due("truth() behind sweeps", x.truth(), true);
        x.add(7, 1);
        due("truth() of 0", x.truth(), false);
        CrowdDesk none = difference(0);
        due("truth() of nobody, c = 0", none.truth(), true);
    }

    private static void silent() {
        sentence("Promise 15 silent");
        CrowdDesk x = rest(0, 2);
        x.add(1, 1);
        due("silent() of one", x.silent(), true);
        x.add(1, 1);
        due("silent() of two leaders", x.silent(), false);
        x.meet(0, 1);
        due("silent() behind their meeting", x.silent(), true);
        due("silent() changes nothing", x.meet(1, 0), false);
        // An atom outside the formula keeps a crowd from being silent, too.
        CrowdDesk y = new CrowdDesk();
        y.coef(0, 1);
        y.sum(2);
        y.sum(0);
        y.compile();
        y.add(0, 3);
        y.sweep(1);
        due("state of the first atom", y.state(1, 0, 2), 1);
        due("silent()", y.silent(), true);
        CrowdDesk z = new CrowdDesk();
        z.coef(0, 1);
        z.sum(3);
        z.compile();
        z.add(0, 3);
        z.sweep(1);
        due("only an opinion is left to change", z.silent(), false);
        z.sweep(1);
        due("silent() now", z.silent(), true);
    }

    private static void agree() {
        sentence("Promise 16 agree");
        CrowdDesk x = difference(1);
        due("agree() of nobody", x.agree(), true);
        x.add(0, 1);
        due("agree() of one", x.agree(), true);
        x.add(0, 1);
        due("agree() of two alike", x.agree(), true);
        x.add(1, 1);
        due("agree() with another", x.agree(), false);
        x.sweep(500);
        due("agree() in the end", x.agree(), true);
        CrowdDesk y = new CrowdDesk();
        y.coef(0, 1);
        y.sum(1);
        y.sum(0);
        y.compile();
        y.add(0, 1);
        y.add(1, 1);
        due("agree() when only opinions outside the formula differ", y.agree(), true);
    }

    private static void explore() {
        sentence("Promise 17 explore");
        CrowdDesk x = new CrowdDesk();
        x.sum(0);
        refused(STATE, "explore(1) when not compiled", () -> x.explore(1));
        x.compile();
        refused(STATE, "explore(1) of nobody", () -> x.explore(1));
        refused(ARGUMENT, "explore(0) of nobody", () -> x.explore(0));
        x.add(0, 1);
        due("explore(1) of one", x.explore(1), 1);
        x.add(1, 5);
        // All are alike; a meeting of two leaders takes one away, until one is left.
        due("explore(3000) of six", x.explore(3000), 6);
        due("explore(6)", x.explore(6), 6);
        due("explore(5)", x.explore(5), CrowdDesk.NONE);
        due("the crowd stays", x.state(5, 0, 1), 1);
        refused(ARGUMENT, "explore(0)", () -> x.explore(0));
        refused(ARGUMENT, "explore(-1)", () -> x.explore(-1));
        refused(ARGUMENT, "explore(3001)", () -> x.explore(3001));
        x.meet(0, 1);
        due("explore(3000) of a later crowd", x.explore(3000), 5);
        x.add(0, 1);
        refused(STATE, "explore(3000) of seven", () -> x.explore(3000));
        refused(ARGUMENT, "explore(3001) of seven", () -> x.explore(3001));
        // Bags: {L1F, L1F} goes to {L0T, N0T} in either order.
        CrowdDesk y = rest(0, 2);
        y.add(1, 2);
        due("explore(2) of two", y.explore(2), 2);
        // {L1F x 3}, {L0T, N0T, L1F}, {L0T, N0F, L1F}, {L1F, N0F, N0T}, {L1F, N0F, N0F}.
        y.add(1, 1);
        due("explore(3000) of three", y.explore(3000), 5);
        // Five atoms, six agents, all different: more than 3000 crowds.
        CrowdDesk many = new CrowdDesk();
        for (int atom = 0; atom < 5; atom++) {
            for (int letter = 0; letter < 6; letter++) {
                many.coef(letter, (letter % 2 == 0 ? 1 : -1) * (20 - 3 * letter - atom));
            }
            many.sum(atom);
        }
        many.compile();
        for (int letter = 0; letter < 6; letter++) {
            many.add(letter, 1);
        }
        due("explore(3000) of very many", many.explore(3000), CrowdDesk.NONE);
        due("explore(1) of very many", many.explore(1), CrowdDesk.NONE);
        due("the crowd stays", many.state(5, 4, 0), -1);
    }

    private static void recovers() {
        sentence("Promise 18 recovers");
        CrowdDesk x = rest(0, 2);
        refused(STATE, "recovers() at first", x::recovers);
        x.add(1, 3);
        refused(STATE, "recovers() without explore", x::recovers);
        x.explore(3000);
        due("recovers()", x.recovers(), true);
        due("recovers() again", x.recovers(), true);
        refused(ARGUMENT, "explore(0)", () -> x.explore(0));
        due("recovers() behind a refused explore", x.recovers(), true);
        x.explore(4);
        refused(STATE, "recovers() behind NONE", x::recovers);
        due("explore(5)", x.explore(5), 5);
        x.add(0, 0);
        due("recovers() behind add(0, 0)", x.recovers(), true);
        refused(ARGUMENT, "add(0, -1)", () -> x.add(0, -1));
        due("recovers() behind a refused add", x.recovers(), true);
        x.meet(0, 1);
        refused(STATE, "recovers() behind a changing meeting", x::recovers);
        x.explore(3000);
        due("a meeting that changes nothing", x.meet(0, 1), false);
        due("recovers() behind it", x.recovers(), true);
        x.sweep(1);
        refused(STATE, "recovers() behind a sweep", x::recovers);
        x.sweep(3);
        x.explore(3000);
        due("a sweep that changes nothing", x.sweep(500), 0);
        due("recovers() behind it", x.recovers(), true);
        x.add(0, 1);
        refused(STATE, "recovers() behind add", x::recovers);
        x.explore(3000);
        x.clear();
        refused(STATE, "recovers() behind clear", x::recovers);
    }

    private static void table() {
        sentence("Promise 19 table");
        CrowdDesk x = new CrowdDesk();
        x.sum(0);
        x.coef(1, 1);
        x.mod(0, 2);
        refused(INDEX, "table(2, 0) when not compiled", () -> x.table(2, 0));
        refused(INDEX, "table(0, 2) when not compiled", () -> x.table(0, 2));
        refused(STATE, "table(0, 0) when not compiled", () -> x.table(0, 0));
        x.combine(0, 0, 1);
        x.compile();
        refused(INDEX, "table(2, 0)", () -> x.table(2, 0));
        refused(INDEX, "table(-1, 0)", () -> x.table(-1, 0));
        refused(INDEX, "table(0, 2)", () -> x.table(0, 2));
        refused(INDEX, "table(0, -1)", () -> x.table(0, -1));
        due("states of 0 >= 0", x.table(0, 0), 2);
        due("rules of 0 >= 0", x.table(0, 1), 1);
        due("states of MOD", x.table(1, 0), 4);
        due("rules of MOD", x.table(1, 1), 8);
    }

    private static void rule() {
        sentence("Promise 20 rule");
        CrowdDesk x = new CrowdDesk();
        x.sum(0);
        x.coef(1, 1);
        x.mod(0, 2);
        refused(INDEX, "rule(2, 0, 0) when not compiled", () -> x.rule(2, 0, 0));
        refused(INDEX, "rule(0, 0, 4) when not compiled", () -> x.rule(0, 0, 4));
        refused(STATE, "rule(0, 0, 0) when not compiled", () -> x.rule(0, 0, 0));
        refused(STATE, "rule(0, -1, 0) when not compiled", () -> x.rule(0, -1, 0));
        x.compile();
        // States: 0 does not lead, value 0, false; 1 so, true; 2 leads, 0, true; 3 leads, 1, false.
        int[][] rules = {
            {0, 2, 1, 2}, {1, 3, 0, 3}, {2, 0, 2, 1}, {2, 2, 2, 1},
            {2, 3, 3, 0}, {3, 1, 3, 0}, {3, 2, 3, 0}, {3, 3, 2, 1}};
        for (int k = 0; k < rules.length; k++) {
            for (int what = 0; what < 4; what++) {
                due("rule(1, " + k + ", " + what + ")", x.rule(1, k, what), rules[k][what]);
            }
        }
        int[] only = {1, 1, 1, 0};
        for (int what = 0; what < 4; what++) {
            due("rule(0, 0, " + what + ")", x.rule(0, 0, what), only[what]);
        }
        refused(INDEX, "rule(1, 8, 0)", () -> x.rule(1, 8, 0));
        refused(INDEX, "rule(0, 1, 0)", () -> x.rule(0, 1, 0));
        refused(INDEX, "rule(0, -1, 0)", () -> x.rule(0, -1, 0));
        refused(INDEX, "rule(0, 0, 4)", () -> x.rule(0, 0, 4));
        refused(INDEX, "rule(0, 0, -1)", () -> x.rule(0, 0, -1));
        refused(INDEX, "rule(2, 0, 0)", () -> x.rule(2, 0, 0));
        refused(INDEX, "rule(-1, 0, 0)", () -> x.rule(-1, 0, 0));
    }

    private static void kind() {
        sentence("Promise 21 kind");
        CrowdDesk x = new CrowdDesk();
        x.coef(0, -1);
        x.coef(1, 1);
        x.sum(0);
        refused(INDEX, "kind(1, 0, 0) when not compiled", () -> x.kind(1, 0, 0));
        refused(INDEX, "kind(0, 0, 3) when not compiled", () -> x.kind(0, 0, 3));
        refused(STATE, "kind(0, 0, 0) when not compiled", () -> x.kind(0, 0, 0));
        refused(STATE, "kind(0, -1, 0) when not compiled", () -> x.kind(0, -1, 0));
        x.compile();
        // s = 1. What is left of -2 is -1 (false), of 2 is 1 (true), else 0 (either).
        int[][] kinds = {
            {-1, 0, 0}, {0, 0, 0}, {0, 0, 1}, {1, 0, 1}, {-1, 1, 0}, {0, 1, 1}, {1, 1, 1}};
        due("states", x.table(0, 0), kinds.length);
        for (int k = 0; k < kinds.length; k++) {
            for (int what = 0; what < 3; what++) {
                due("kind(0, " + k + ", " + what + ")", x.kind(0, k, what), kinds[k][what]);
            }
        }
        refused(INDEX, "kind(0, 7, 0)", () -> x.kind(0, 7, 0));
        refused(INDEX, "kind(0, -1, 0)", () -> x.kind(0, -1, 0));
        refused(INDEX, "kind(0, 0, 3)", () -> x.kind(0, 0, 3));
        refused(INDEX, "kind(0, 0, -1)", () -> x.kind(0, 0, -1));
        refused(INDEX, "kind(1, 0, 0)", () -> x.kind(1, 0, 0));
        refused(INDEX, "kind(-1, 0, 0)", () -> x.kind(-1, 0, 0));
    }
}
