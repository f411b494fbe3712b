/** The boundary cases of promises 19 to 21 (states and rules of atoms), on both sides of each edge. */
public final class EdgesOfTables extends Checks {
    private static final int[] NO_ATOMS = {-1, 2, 3, 5, LEAST, GREATEST};

    public static void main(String[] args) {
        tableNoAtom();
        tableNoWhat();
        tableNotCompiled();
        tableOrder();
        ruleNoAtom();
        ruleNoWhat();
        ruleNotCompiled();
        ruleOrder();
        ruleNoRule();
        ruleOfLongTable();
        kindNoAtom();
        kindNoWhat();
        kindNotCompiled();
        kindOrder();
        kindNoState();
        kindOfLongTable();
        finish();
    }

    /** Atoms 0 >= 0 (2 states, 1 rule) and x_1 is even (4 states, 8 rules), joined; not compiled. */
    private static CrowdDesk open() {
        CrowdDesk x = new CrowdDesk();
        x.sum(0);
        x.coef(1, 1);
        x.mod(0, 2);
        x.combine(0, 0, 1);
        return x;
    }

    private static CrowdDesk compiled() {
        CrowdDesk x = open();
        x.compile();
        return x;
    }

    /** 20 x_0 - 20 x_1 >= 20, compiled: the longest table, 87 states. */
    private static CrowdDesk longest() {
        CrowdDesk x = new CrowdDesk();
        x.coef(0, 20);
        x.coef(1, -20);
        x.sum(20);
        x.compile();
        return x;
    }

    private static void tableNoAtom() {
        sentence("Promise 19: IndexOutOfBoundsException, when there is no such atom");
        CrowdDesk x = compiled();
        for (int atom : NO_ATOMS) {
            refused(INDEX, "table(" + atom + ", 0)", () -> x.table(atom, 0));
            refused(INDEX, "table(" + atom + ", 1)", () -> x.table(atom, 1));
        }
        due("table(0, 0)", x.table(0, 0), 2);
        due("table(1, 0)", x.table(1, 0), 4);
        CrowdDesk five = new CrowdDesk();
        for (int atom = 0; atom < 5; atom++) {
            five.sum(0);
        }
        five.compile();
        due("table(4, 0) of five", five.table(4, 0), 2);
        refused(INDEX, "table(5, 0) of five", () -> five.table(5, 0));
    }

    private static void tableNoWhat() {
        sentence("Promise 19: IndexOutOfBoundsException, when there is no such what");
        CrowdDesk x = compiled();
        for (int what : new int[] {-1, 2, LEAST, GREATEST}) {
            refused(INDEX, "table(1, " + what + ")", () -> x.table(1, what));
        }
        due("table(1, 0)", x.table(1, 0), 4);
        due("table(1, 1)", x.table(1, 1), 8);
        due("table(0, 0)", x.table(0, 0), 2);
        due("table(0, 1)", x.table(0, 1), 1);
    }

    private static void tableNotCompiled() {
        sentence("Promise 19: IllegalStateException, when the formula is not compiled");
        CrowdDesk x = open();
        refused(STATE, "table(0, 0)", () -> x.table(0, 0));
        refused(STATE, "table(1, 1)", () -> x.table(1, 1));
        due("compile()", x.compile(), 6);
        due("table(0, 0)", x.table(0, 0), 2);
        due("table(1, 1)", x.table(1, 1), 8);
        x.clear();
        x.sum(0);
        refused(STATE, "table(0, 0) of the next formula", () -> x.table(0, 0));
        CrowdDesk twice = new CrowdDesk();
        twice.sum(0);
        twice.combine(0, 0, 0);
        refused(STATE, "compile() is refused", twice::compile);
        refused(STATE, "table(0, 0) behind that", () -> twice.table(0, 0));
    }

    private static void tableOrder() {
        sentence("Promise 19: no such atom or what goes before not compiled");
        CrowdDesk x = open();
        for (int atom : NO_ATOMS) {
            refused(INDEX, "table(" + atom + ", 0) when not compiled", () -> x.table(atom, 0));
        }
        refused(INDEX, "table(0, 2) when not compiled", () -> x.table(0, 2));
        refused(INDEX, "table(0, -1) when not compiled", () -> x.table(0, -1));
        CrowdDesk fresh = new CrowdDesk();
        refused(INDEX, "table(0, 0) of a new object", () -> fresh.table(0, 0));
    }

    private static void ruleNoAtom() {
        sentence("Promise 20: IndexOutOfBoundsException, when there is no such atom");
        CrowdDesk x = compiled();
        for (int atom : NO_ATOMS) {
            refused(INDEX, "rule(" + atom + ", 0, 0)", () -> x.rule(atom, 0, 0));
        }
        due("rule(0, 0, 0)", x.rule(0, 0, 0), 1);
        due("rule(1, 0, 0)", x.rule(1, 0, 0), 0);
    }

    private static void ruleNoWhat() {
        sentence("Promise 20: IndexOutOfBoundsException, when there is no such what");
        CrowdDesk x = compiled();
        for (int what : new int[] {-1, 4, LEAST, GREATEST}) {
            refused(INDEX, "rule(1, 0, " + what + ")", () -> x.rule(1, 0, what));
        }
        // State 0 thinks false and meets the leader 2 of value 0, which thinks true.
        int[] rule = {0, 2, 1, 2};
        for (int what = 0; what < 4; what++) {
            due("rule(1, 0, " + what + ")", x.rule(1, 0, what), rule[what]);
        }
    }

    private static void ruleNotCompiled() {
        sentence("Promise 20: IllegalStateException, when the formula is not compiled");
        CrowdDesk x = open();
        refused(STATE, "rule(0, 0, 0)", () -> x.rule(0, 0, 0));
        refused(STATE, "rule(1, 7, 3)", () -> x.rule(1, 7, 3));
        x.compile();
        due("rule(0, 0, 0)", x.rule(0, 0, 0), 1);
        due("rule(1, 7, 3)", x.rule(1, 7, 3), 1);
    }

    private static void ruleOrder() {
        sentence("Promise 20: no such atom or what first, then not compiled, then no such rule");
        CrowdDesk x = open();
        for (int atom : NO_ATOMS) {
            refused(INDEX, "rule(" + atom + ", 0, 0) when not compiled", () -> x.rule(atom, 0, 0));
        }
        refused(INDEX, "rule(0, 0, 4) when not compiled", () -> x.rule(0, 0, 4));
        refused(INDEX, "rule(0, 0, -1) when not compiled", () -> x.rule(0, 0, -1));
        for (int k : new int[] {-1, 1, 100000, LEAST, GREATEST}) {
            refused(STATE, "rule(0, " + k + ", 0) when not compiled", () -> x.rule(0, k, 0));
        }
        CrowdDesk fresh = new CrowdDesk();
        refused(INDEX, "rule(0, 0, 0) of a new object", () -> fresh.rule(0, 0, 0));
    }

    private static void ruleNoRule() {
        sentence("Promise 20: IndexOutOfBoundsException, when there is no such rule");
        CrowdDesk x = compiled();
        due("rule(0, 0, 3), the last one", x.rule(0, 0, 3), 0);
        refused(INDEX, "rule(0, 1, 0), one behind it", () -> x.rule(0, 1, 0));
        // Two leaders of value 1 become a leader of 0 and one that does not lead, both true.
        int[] last = {3, 3, 2, 1};
        for (int what = 0; what < 4; what++) {
            due("rule(1, 7, " + what + "), the last one", x.rule(1, 7, what), last[what]);
        }
        for (int k : new int[] {8, -1, LEAST, GREATEST}) {
            for (int what = 0; what < 4; what++) {
                int asked = what;
                refused(INDEX, "rule(1, " + k + ", " + what + ")", () -> x.rule(1, k, asked));
            }
        }
        // Not the rules of the table that stood here before.
        x.clear();
        x.sum(0);
        x.sum(0);
        x.compile();
        due("rule(1, 0, 0) behind clear()", x.rule(1, 0, 0), 1);
        refused(INDEX, "rule(1, 1, 0) behind clear()", () -> x.rule(1, 1, 0));
    }

    private static void ruleOfLongTable() {
        sentence("Promise 20: the last rule of the longest table, and one behind it");
        CrowdDesk x = longest();
        due("rules", x.table(0, 1), 5463);
        due("x of the last one", x.rule(0, 5462, 0), 86);
        due("y of the last one", x.rule(0, 5462, 1), 86);
        due("what x becomes", x.rule(0, 5462, 2), 86);
        int left = x.rule(0, 5462, 3);
        due("21 is left", x.kind(0, left, 0), 21);
        due("it does not lead", x.kind(0, left, 1), 0);
        refused(INDEX, "rule(0, 5463, 0)", () -> x.rule(0, 5463, 0));
        refused(INDEX, "rule(0, -1, 0)", () -> x.rule(0, -1, 0));
    }

    private static void kindNoAtom() {
        sentence("Promise 21: IndexOutOfBoundsException, when there is no such atom");
        CrowdDesk x = compiled();
        for (int atom : NO_ATOMS) {
            refused(INDEX, "kind(" + atom + ", 0, 0)", () -> x.kind(atom, 0, 0));
        }
        due("kind(0, 0, 2)", x.kind(0, 0, 2), 1);
        due("kind(1, 0, 2)", x.kind(1, 0, 2), 0);
    }

    private static void kindNoWhat() {
        sentence("Promise 21: IndexOutOfBoundsException, when there is no such what");
        CrowdDesk x = compiled();
        for (int what : new int[] {-1, 3, LEAST, GREATEST}) {
            refused(INDEX, "kind(1, 3, " + what + ")", () -> x.kind(1, 3, what));
        }
        expectKind(x, 1, 3, 1, 1, 0);
    }

    private static void expectKind(CrowdDesk x, int atom, int k, int... facts) {
        for (int what = 0; what < 3; what++) {
            due("kind(" + atom + ", " + k + ", " + what + ")", x.kind(atom, k, what), facts[what]);
        }
    }

    private static void kindNotCompiled() {
        sentence("Promise 21: IllegalStateException, when the formula is not compiled");
        CrowdDesk x = open();
        refused(STATE, "kind(0, 0, 0)", () -> x.kind(0, 0, 0));
        refused(STATE, "kind(1, 3, 2)", () -> x.kind(1, 3, 2));
        x.compile();
        due("kind(0, 0, 0)", x.kind(0, 0, 0), 0);
        due("kind(1, 3, 2)", x.kind(1, 3, 2), 0);
    }

    private static void kindOrder() {
        sentence("Promise 21: no such atom or what first, then not compiled, then no such state");
        CrowdDesk x = open();
        for (int atom : NO_ATOMS) {
            refused(INDEX, "kind(" + atom + ", 0, 0) when not compiled", () -> x.kind(atom, 0, 0));
        }
        refused(INDEX, "kind(0, 0, 3) when not compiled", () -> x.kind(0, 0, 3));
        refused(INDEX, "kind(0, 0, -1) when not compiled", () -> x.kind(0, 0, -1));
        for (int k : new int[] {-1, 2, 200, LEAST, GREATEST}) {
            refused(STATE, "kind(0, " + k + ", 0) when not compiled", () -> x.kind(0, k, 0));
        }
        CrowdDesk fresh = new CrowdDesk();
        refused(INDEX, "kind(0, 0, 0) of a new object", () -> fresh.kind(0, 0, 0));
    }

    private static void kindNoState() {
        sentence("Promise 21: IndexOutOfBoundsException, when there is no such state");
        CrowdDesk x = compiled();
        expectKind(x, 0, 0, 0, 0, 1);
        expectKind(x, 0, 1, 0, 1, 1);
        expectKind(x, 1, 0, 0, 0, 0);
        expectKind(x, 1, 1, 0, 0, 1);
        expectKind(x, 1, 2, 0, 1, 1);
        expectKind(x, 1, 3, 1, 1, 0);
        for (int what = 0; what < 3; what++) {
            int asked = what;
            refused(INDEX, "kind(0, 2, " + what + "), one behind the last", () -> x.kind(0, 2, asked));
            for (int k : new int[] {4, -1, 255, 256, LEAST, GREATEST}) {
                refused(INDEX, "kind(1, " + k + ", " + what + ")", () -> x.kind(1, k, asked));
            }
        }
        // Not the states of the table that stood here before.
        x.clear();
        x.sum(0);
        x.sum(0);
        x.compile();
        expectKind(x, 1, 1, 0, 1, 1);
        refused(INDEX, "kind(1, 2, 0) behind clear()", () -> x.kind(1, 2, 0));
    }

    private static void kindOfLongTable() {
        sentence("Promise 21: the last state of the longest table, and one behind it");
        CrowdDesk x = longest();
        due("states", x.table(0, 0), 87);
        expectKind(x, 0, 0, -21, 0, 0);
        expectKind(x, 0, 86, 21, 1, 1);
        refused(INDEX, "kind(0, 87, 0)", () -> x.kind(0, 87, 0));
        refused(INDEX, "kind(0, -1, 0)", () -> x.kind(0, -1, 0));
    }
}
