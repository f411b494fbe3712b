/** The boundary cases of promises 8 to 16 (agents, their meetings and outputs), on both sides of each edge. */
public final class EdgesOfCrowd extends Checks {
    public static void main(String[] args) {
        addLetter();
        addBelowNone();
        addNone();
        addNotCompiled();
        addTooMany();
        addOrder();
        size();
        meetSameNumber();
        meetNoAgent();
        meetOrder();
        meetChangesNothing();
        sweepTimes();
        sweepSoMany();
        sweepFew();
        outputNoAgent();
        stateNoAgent();
        stateNoAtom();
        stateNoWhat();
        truthNotCompiled();
        truthOfNobody();
        silentOfNobody();
        silentOfOne();
        silentOfTwo();
        silentOfMany();
        agreeOfNobody();
        agreeOfOne();
        agreeOfTwo();
        agreeOfMany();
        finish();
    }

    /** x_0 >= 1 AND x_1 is odd, compiled, an agent each of letters 0, 1 and 2. */
    private static CrowdDesk threeAgents() {
        CrowdDesk x = new CrowdDesk();
        x.coef(0, 1);
        x.sum(1);
        x.coef(1, 1);
        x.mod(1, 2);
        x.combine(0, 0, 1);
        x.compile();
        x.add(0, 1);
        x.add(1, 1);
        x.add(2, 1);
        return x;
    }

    private static void addLetter() {
        sentence("Promise 8: IllegalArgumentException, when there is no such letter");
        CrowdDesk x = threeAgents();
        x.explore(3000);
        String before = look(x);
        for (int letter : new int[] {-1, 8, LEAST, GREATEST}) {
            refused(ARGUMENT, "add(" + letter + ", 1)", () -> x.add(letter, 1));
            refused(ARGUMENT, "add(" + letter + ", 0)", () -> x.add(letter, 0));
        }
        due("a refused one changes nothing", look(x), before);
        due("add(0, 1)", x.add(0, 1), 4);
        due("add(7, 1)", x.add(7, 1), 5);
        expectState(x, 3, 0, 1, 1, 1);
        expectState(x, 4, 0, 0, 1, 0);
    }

    private static void addBelowNone() {
        sentence("Promise 8: IllegalArgumentException, when n is below 0");
        CrowdDesk x = threeAgents();
        x.explore(3000);
        String before = look(x);
        refused(ARGUMENT, "add(0, -1)", () -> x.add(0, -1));
        refused(ARGUMENT, "add(0, -3)", () -> x.add(0, -3));
        refused(ARGUMENT, "add(0, LEAST)", () -> x.add(0, LEAST));
        due("a refused one changes nothing", look(x), before);
        due("add(0, 0)", x.add(0, 0), 3);
        due("add(0, 1)", x.add(0, 1), 4);
    }

    private static void addNone() {
        sentence("Promise 8: n agents more, of n 0");
        CrowdDesk x = difference(1);
        due("add(0, 0) to nobody", x.add(0, 0), 0);
        due("size()", x.size(), 0);
        due("truth()", x.truth(), false);
        refused(STATE, "explore(1), still nobody", () -> x.explore(1));
        x.add(0, 200);
        due("add(1, 0) to 200", x.add(1, 0), 200);
        CrowdDesk y = threeAgents();
        y.explore(3000);
        String before = look(y);
        for (int letter = 0; letter < 8; letter++) {
            due("add(" + letter + ", 0)", y.add(letter, 0), 3);
        }
        due("it changes nothing", look(y), before);
    }

    private static void addNotCompiled() {
        sentence("Promise 8: IllegalStateException, when the formula is not compiled");
        CrowdDesk x = new CrowdDesk();
        refused(STATE, "add(0, 1) without nodes", () -> x.add(0, 1));
        refused(STATE, "add(0, 0) without nodes", () -> x.add(0, 0));
        x.sum(0);
        refused(STATE, "add(0, 1) before compile()", () -> x.add(0, 1));
        refused(STATE, "add(0, 0) before compile()", () -> x.add(0, 0));
        refused(STATE, "add(0, 201) before compile()", () -> x.add(0, 201));
        due("nobody came", x.size(), 0);
        x.compile();
        due("add(0, 1) behind compile()", x.add(0, 1), 1);
        x.clear();
        refused(STATE, "add(0, 1) behind clear()", () -> x.add(0, 1));
        due("nobody came", x.size(), 0);
        CrowdDesk twice = new CrowdDesk();
        twice.sum(0);
        twice.combine(0, 0, 0);
        refused(STATE, "compile() is refused", twice::compile);
        refused(STATE, "add(0, 1) behind a refused compile()", () -> twice.add(0, 1));
    }

    private static void addTooMany() {
        sentence("Promise 8: IllegalStateException, when there would be more than 200");
        CrowdDesk at = difference(0);
        refused(STATE, "add(0, 201)", () -> at.add(0, 201));
        refused(STATE, "add(0, GREATEST)", () -> at.add(0, GREATEST));
        due("nobody came", at.size(), 0);
        due("add(0, 200)", at.add(0, 200), 200);
        refused(STATE, "add(0, 1) to 200", () -> at.add(0, 1));
        refused(STATE, "add(7, GREATEST) to 200", () -> at.add(7, GREATEST));
        due("nobody came", at.size(), 200);
        expectState(at, 199, 0, 1, 1, 1);
        CrowdDesk by = difference(1);
        due("add(1, 199)", by.add(1, 199), 199);
        refused(STATE, "add(0, 2) to 199", () -> by.add(0, 2));
        due("letters are not counted either", by.truth(), false);
        due("add(0, 1) to 199", by.add(0, 1), 200);
        CrowdDesk six = threeAgents();
        six.explore(3000);
        String before = look(six);
        refused(STATE, "add(0, 198) to 3", () -> six.add(0, 198));
        due("a refused one changes nothing", look(six), before);
        due("add(0, 197) to 3", six.add(0, 197), 200);
    }

    private static void addOrder() {
        sentence("Promise 8: the arguments are looked at first");
        CrowdDesk x = new CrowdDesk();
        x.sum(0);
        refused(ARGUMENT, "add(8, 1) when not compiled", () -> x.add(8, 1));
        refused(ARGUMENT, "add(0, -1) when not compiled", () -> x.add(0, -1));
        x.compile();
        refused(ARGUMENT, "add(-1, 201)", () -> x.add(-1, 201));
        x.add(0, 200);
        refused(ARGUMENT, "add(0, -1) to 200", () -> x.add(0, -1));
        refused(ARGUMENT, "add(8, 1) to 200", () -> x.add(8, 1));
    }

    private static void size() {
        sentence("Promise 9: how many agents there are");
        CrowdDesk x = new CrowdDesk();
        due("of a new object", x.size(), 0);
        x.sum(0);
        due("of a formula", x.size(), 0);
        x.compile();
        due("of a compiled one", x.size(), 0);
        x.add(5, 1);
        due("of one", x.size(), 1);
        x.add(6, 199);
        due("of 200", x.size(), 200);
        x.sweep(1);
        x.meet(0, 199);
        due("behind meetings", x.size(), 200);
        x.clear();
        due("behind clear()", x.size(), 0);
    }

    private static void meetSameNumber() {
        sentence("Promise 10: IllegalArgumentException, when they are the same number");
        CrowdDesk x = threeAgents();
        x.explore(3000);
        String before = look(x);
        for (int i = 0; i < 3; i++) {
            int same = i;
            refused(ARGUMENT, "meet(" + i + ", " + i + ")", () -> x.meet(same, same));
        }
        due("a refused one changes nothing", look(x), before);
        due("meet(0, 1)", x.meet(0, 1), true);
    }

    private static void meetNoAgent() {
        sentence("Promise 10: IndexOutOfBoundsException, when one is no agent");
        CrowdDesk x = threeAgents();
        x.explore(3000);
        String before = look(x);
        for (int none : new int[] {-1, 3, LEAST, GREATEST}) {
            for (int i = 0; i < 3; i++) {
                int one = i;
                refused(INDEX, "meet(" + i + ", " + none + ")", () -> x.meet(one, none));
                refused(INDEX, "meet(" + none + ", " + i + ")", () -> x.meet(none, one));
            }
        }
        refused(INDEX, "meet(3, -1)", () -> x.meet(3, -1));
        due("a refused one changes nothing", look(x), before);
        due("meet(0, 2), the last one", x.meet(0, 2), true);
        due("meet(2, 1)", x.meet(2, 1), true);
        CrowdDesk none = difference(0);
        refused(INDEX, "meet(0, 1) of nobody", () -> none.meet(0, 1));
        none.add(0, 1);
        refused(INDEX, "meet(0, 1) of one", () -> none.meet(0, 1));
        refused(INDEX, "meet(1, 0) of one", () -> none.meet(1, 0));
        none.add(0, 199);
        due("meet(199, 0)", none.meet(199, 0), true);
        refused(INDEX, "meet(0, 200)", () -> none.meet(0, 200));
    }

    private static void meetOrder() {
        sentence("Promise 10: the same number is looked at first");
        CrowdDesk x = new CrowdDesk();
        for (int none : new int[] {0, -1, 1, 200, LEAST, GREATEST}) {
            refused(ARGUMENT, "meet(" + none + ", " + none + ") of nobody", () -> x.meet(none, none));
        }
    }

    private static void meetChangesNothing() {
        sentence("Promise 10: whether that changed anything");
        CrowdDesk x = rest(0, 2);
        x.add(1, 2);
        x.add(0, 1);
        due("meet(0, 1) of two leaders", x.meet(0, 1), true);
        due("meet(0, 1) again", x.meet(0, 1), false);
        due("meet(1, 0)", x.meet(1, 0), false);
        // The leaders of value 0 think true, as the one that does not lead: only who leads changes.
        due("meet(0, 2), only who leads changes", x.meet(0, 2), true);
        expectState(x, 0, 0, 0, 1, 1);
        expectState(x, 2, 0, 0, 0, 1);
        x.add(1, 1);
        due("meet(3, 0)", x.meet(3, 0), true);
        expectState(x, 3, 0, 1, 1, 0);
        due("meet(2, 3), only an opinion changes", x.meet(2, 3), true);
        expectState(x, 2, 0, 0, 0, 0);
        due("meet(2, 3) again", x.meet(2, 3), false);
        // A value alone moves from one that does not lead to the leader.
        CrowdDesk y = new CrowdDesk();
        y.coef(0, 2);
        y.coef(1, -1);
        y.sum(0);
        y.compile();
        y.add(0, 2);
        y.add(1, 1);
        y.meet(0, 1);
        expectState(y, 1, 0, 2, 0, 1);
        y.meet(0, 2);
        expectState(y, 0, 0, 1, 1, 1);
        due("meet(0, 1), only values change", y.meet(0, 1), true);
        expectState(y, 0, 0, 2, 1, 1);
        expectState(y, 1, 0, 1, 0, 1);
        due("meet(0, 1), the leader is full", y.meet(0, 1), false);
    }

    private static void sweepTimes() {
        sentence("Promise 11: IllegalArgumentException, when times is not 1 .. 500");
        CrowdDesk x = threeAgents();
        x.explore(3000);
        String before = look(x);
        for (int times : new int[] {0, -1, 501, LEAST, GREATEST}) {
            refused(ARGUMENT, "sweep(" + times + ")", () -> x.sweep(times));
        }
        due("a refused one changes nothing", look(x), before);
        due("sweep(1)", x.sweep(1) > 0, true);
        CrowdDesk y = threeAgents();
        due("sweep(500)", y.sweep(500) > 0, true);
        due("then nothing is left to do", y.silent(), true);
        CrowdDesk fresh = new CrowdDesk();
        refused(ARGUMENT, "sweep(0) of a new object", () -> fresh.sweep(0));
        refused(ARGUMENT, "sweep(501) of a new object", () -> fresh.sweep(501));
        due("sweep(1) of a new object", fresh.sweep(1), 0);
        due("sweep(500) of a new object", fresh.sweep(500), 0);
    }

    /** 60 times 1, then 60 times -1, s = 1: each sweep takes away few of them. */
    private static CrowdDesk slowCrowd() {
        CrowdDesk x = difference(0);
        x.add(0, 60);
        x.add(1, 60);
        return x;
    }

    private static void sweepSoMany() {
        sentence("Promise 11: so many sweeps: how many meetings changed anything");
        CrowdDesk oneByOne = slowCrowd();
        int sweeps = 0;
        int changes = 0;
        int more = oneByOne.sweep(1);
        while (more > 0 && sweeps < 200) {
            sweeps++;
            changes += more;
            due("sweep(" + sweeps + ")", slowCrowd().sweep(sweeps), changes);
            more = oneByOne.sweep(1);
        }
        due("it needs many sweeps", sweeps > 20, true);
        due("sweep(500)", slowCrowd().sweep(500), changes);
        CrowdDesk early = slowCrowd();
        early.sweep(sweeps - 1);
        due("silent() one sweep too early", early.silent(), false);
        early.sweep(1);
        due("silent() in time", early.silent(), true);
    }

    private static void sweepFew() {
        sentence("Promise 11: sweeps of nobody, one and two");
        CrowdDesk x = rest(0, 2);
        due("sweep(1) of nobody", x.sweep(1), 0);
        x.add(1, 1);
        due("sweep(500) of one", x.sweep(500), 0);
        expectState(x, 0, 0, 1, 1, 0);
        x.add(1, 1);
        due("sweep(1) of two", x.sweep(1), 1);
        expectState(x, 0, 0, 0, 1, 1);
        expectState(x, 1, 0, 0, 0, 1);
        due("sweep(1) again", x.sweep(1), 0);
    }

    private static void outputNoAgent() {
        sentence("Promise 12: IndexOutOfBoundsException, when there is no such agent");
        CrowdDesk x = new CrowdDesk();
        refused(INDEX, "output(0) of a new object", () -> x.output(0));
        x.sum(0);
        refused(INDEX, "output(0) when not compiled", () -> x.output(0));
        x.compile();
        refused(INDEX, "output(0) of nobody", () -> x.output(0));
        x.add(0, 1);
        due("output(0)", x.output(0), true);
        for (int none : new int[] {-1, 1, 199, 200, LEAST, GREATEST}) {
            refused(INDEX, "output(" + none + ")", () -> x.output(none));
        }
        x.add(0, 199);
        due("output(199)", x.output(199), true);
        refused(INDEX, "output(200)", () -> x.output(200));
        x.clear();
        refused(INDEX, "output(0) behind clear()", () -> x.output(0));
    }

    private static void stateNoAgent() {
        sentence("Promise 13: IndexOutOfBoundsException, when there is no such agent");
        CrowdDesk x = threeAgents();
        for (int none : new int[] {-1, 3, 200, LEAST, GREATEST}) {
            refused(INDEX, "state(" + none + ", 0, 0)", () -> x.state(none, 0, 0));
        }
        expectState(x, 0, 0, 1, 1, 1);
        expectState(x, 2, 0, 0, 1, 0);
        CrowdDesk nobody = difference(0);
        refused(INDEX, "state(0, 0, 0) of nobody", () -> nobody.state(0, 0, 0));
        nobody.add(1, 200);
        expectState(nobody, 199, 0, -1, 1, 0);
        refused(INDEX, "state(200, 0, 0)", () -> nobody.state(200, 0, 0));
        CrowdDesk open = new CrowdDesk();
        open.sum(0);
        refused(INDEX, "state(0, 0, 0) when not compiled", () -> open.state(0, 0, 0));
    }

    private static void stateNoAtom() {
        sentence("Promise 13: IndexOutOfBoundsException, when there is no such atom");
        CrowdDesk x = threeAgents();
        // Node 2 is no atom, and there are two atoms.
        for (int none : new int[] {-1, 2, 3, 5, LEAST, GREATEST}) {
            refused(INDEX, "state(0, " + none + ", 0)", () -> x.state(0, none, 0));
        }
        expectState(x, 1, 0, 0, 1, 0);
        expectState(x, 1, 1, 1, 1, 1);
        CrowdDesk five = new CrowdDesk();
        for (int atom = 0; atom < 5; atom++) {
            five.coef(0, -atom);
            five.sum(0);
        }
        five.compile();
        five.add(0, 1);
        expectState(five, 0, 4, -4, 1, 0);
        refused(INDEX, "state(0, 5, 0)", () -> five.state(0, 5, 0));
    }

    private static void stateNoWhat() {
        sentence("Promise 13: IndexOutOfBoundsException, when there is no such what");
        CrowdDesk x = threeAgents();
        for (int none : new int[] {-1, 3, LEAST, GREATEST}) {
            refused(INDEX, "state(0, 0, " + none + ")", () -> x.state(0, 0, none));
        }
        x.meet(0, 2);
        expectState(x, 0, 0, 1, 1, 1);
        expectState(x, 2, 0, 0, 0, 1);
        expectState(x, 2, 1, 0, 0, 0);
    }

    private static void truthNotCompiled() {
        sentence("Promise 14: IllegalStateException, when it is not compiled");
        CrowdDesk x = new CrowdDesk();
        refused(STATE, "truth() of a new object", x::truth);
        x.sum(0);
        refused(STATE, "truth() before compile()", x::truth);
        x.combine(0, 0, 0);
        refused(STATE, "compile() is refused", x::compile);
        refused(STATE, "truth() behind that", x::truth);
        x.clear();
        x.sum(0);
        x.compile();
        due("truth() behind compile()", x.truth(), true);
        x.clear();
        refused(STATE, "truth() behind clear()", x::truth);
    }

    private static void truthOfNobody() {
        sentence("Promise 14: the formula over the counts, of nobody and of 200");
        due("0 >= 0", difference(0).truth(), true);
        due("0 >= 1", difference(1).truth(), false);
        due("0 >= -1", difference(-1).truth(), true);
        due("0 is 0 more than a multiple of 2", rest(0, 2).truth(), true);
        due("0 is 1 more than a multiple of 2", rest(1, 2).truth(), false);
        CrowdDesk full = rest(8, 16);
        full.add(1, 200);
        due("200 is 8 more than 192", full.truth(), true);
        CrowdDesk mixed = rest(8, 16);
        mixed.add(1, 199);
        mixed.add(0, 1);
        due("199 is 7 more than 192", mixed.truth(), false);
    }

    private static void silentOfNobody() {
        sentence("Promise 15: a crowd of no agents");
        CrowdDesk x = new CrowdDesk();
        due("silent() of a new object", x.silent(), true);
        x.coef(0, 1);
        x.sum(1);
        due("silent() before compile()", x.silent(), true);
        x.compile();
        due("silent() behind compile()", x.silent(), true);
        x.add(0, 2);
        due("silent() of two leaders", x.silent(), false);
        x.clear();
        due("silent() behind clear()", x.silent(), true);
    }

    private static void silentOfOne() {
        sentence("Promise 15: a crowd of one");
        for (int letter = 0; letter < 3; letter++) {
            CrowdDesk x = difference(1);
            x.add(letter, 1);
            due("silent() of one with letter " + letter, x.silent(), true);
            x.add(letter, 1);
            due("silent() of two", x.silent(), false);
        }
    }

    private static void silentOfTwo() {
        sentence("Promise 15: a crowd of two, silent or not");
        CrowdDesk x = rest(1, 3);
        x.add(1, 2);
        due("both lead", x.silent(), false);
        x.meet(1, 0);
        due("one leads, both think its", x.silent(), true);
        x.add(0, 1);
        due("another came", x.silent(), false);
        // Two atoms: silent in the one is not silent.
        CrowdDesk two = new CrowdDesk();
        two.coef(0, 1);
        two.sum(1);
        two.coef(0, 1);
        two.mod(0, 2);
        two.compile();
        two.add(0, 3);
        two.meet(0, 1);
        two.meet(0, 2);
        expectState(two, 1, 0, 0, 0, 1);
        expectState(two, 1, 1, 0, 0, 1);
        due("an opinion of the second atom is left", two.silent(), false);
        two.meet(0, 1);
        due("nothing is left", two.silent(), true);
    }

    private static void silentOfMany() {
        sentence("Promise 15: a crowd of 200 in which only the last two would change");
        CrowdDesk x = rest(0, 2);
        x.add(0, 199);
        x.sweep(2);
        due("silent() of 199", x.silent(), true);
        x.add(1, 1);
        due("another leader", x.silent(), false);
        x.meet(199, 0);
        for (int i = 1; i < 198; i++) {
            due("meet(" + i + ", 199)", x.meet(i, 199), true);
        }
        due("the last but one thinks otherwise", x.silent(), false);
        due("meet(198, 199)", x.meet(198, 199), true);
        due("silent() of 200", x.silent(), true);
    }

    private static void agreeOfNobody() {
        sentence("Promise 16: a crowd of no agents");
        CrowdDesk x = new CrowdDesk();
        due("agree() of a new object", x.agree(), true);
        x.coef(0, 1);
        x.sum(1);
        due("agree() before compile()", x.agree(), true);
        x.compile();
        due("agree() behind compile()", x.agree(), true);
        x.add(0, 1);
        x.add(1, 1);
        due("agree() of two that differ", x.agree(), false);
        x.clear();
        due("agree() behind clear()", x.agree(), true);
    }

    private static void agreeOfOne() {
        sentence("Promise 16: a crowd of one");
        CrowdDesk yes = difference(1);
        yes.add(0, 1);
        due("output(0)", yes.output(0), true);
        due("agree()", yes.agree(), true);
        CrowdDesk no = difference(1);
        no.add(1, 1);
        due("output(0)", no.output(0), false);
        due("agree()", no.agree(), true);
    }

    private static void agreeOfTwo() {
        sentence("Promise 16: a crowd of two, alike or not");
        for (int first = 0; first < 2; first++) {
            for (int second = 0; second < 2; second++) {
                CrowdDesk x = difference(1);
                x.add(first, 1);
                x.add(second, 1);
                due("agree() of " + first + " and " + second, x.agree(), first == second);
                x.meet(0, 1);
                due("agree() behind their meeting", x.agree(), true);
            }
        }
    }

    private static void agreeOfMany() {
        sentence("Promise 16: a crowd of 200 in which one alone differs");
        CrowdDesk last = difference(1);
        last.add(0, 199);
        due("agree() of 199", last.agree(), true);
        last.add(1, 1);
        due("the last one differs", last.agree(), false);
        CrowdDesk first = difference(1);
        first.add(1, 1);
        first.add(0, 199);
        due("the first one differs", first.agree(), false);
        first.meet(199, 198);
        first.meet(199, 0);
        due("1 + 1 - 1 is enough: it differs no more", first.agree(), true);
    }
}
