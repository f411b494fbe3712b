/** The boundary cases of promises 17 and 18 (explore and recovers), on both sides of each edge. */
public final class EdgesOfSearch extends Checks {
    public static void main(String[] args) {
        exploreLimit();
        exploreNobody();
        exploreOneToSix();
        exploreMoreThanSix();
        exploreOrder();
        exploreJustAsMany();
        exploreGreatestLimit();
        exploreOneMoreThanGreatestLimit();
        exploreStays();
        exploreBags();
        recoversNothingExplored();
        recoversNone();
        recoversAdded();
        recoversNoneAdded();
        recoversMet();
        recoversMetForNothing();
        recoversSwept();
        recoversSweptForNothing();
        recoversRefusedCalls();
        recoversBehindQuestions();
        recoversLatestExplore();
        recoversTruth();
        finish();
    }

    /** x_1 is even, so many agents with letter 1. */
    private static CrowdDesk even(int agents) {
        CrowdDesk x = rest(0, 2);
        x.add(1, agents);
        return x;
    }

    private static void exploreLimit() {
        sentence("Promise 17: IllegalArgumentException, when limit is not 1 .. 3000");
        CrowdDesk x = even(3);
        String before = look(x);
        for (int limit : new int[] {0, -1, 3001, LEAST, GREATEST}) {
            refused(ARGUMENT, "explore(" + limit + ")", () -> x.explore(limit));
        }
        due("a refused one changes nothing", look(x), before);
        due("explore(1)", x.explore(1), CrowdDesk.NONE);
        due("explore(3000)", x.explore(3000), 5);
    }

    private static void exploreNobody() {
        sentence("Promise 17: IllegalStateException, when there are no agents");
        CrowdDesk x = new CrowdDesk();
        refused(STATE, "explore(1) of a new object", () -> x.explore(1));
        x.sum(0);
        refused(STATE, "explore(1) before compile()", () -> x.explore(1));
        x.compile();
        refused(STATE, "explore(3000) of nobody", () -> x.explore(3000));
        x.add(0, 0);
        refused(STATE, "explore(3000) of nobody still", () -> x.explore(3000));
        x.add(0, 1);
        due("explore(3000) of one", x.explore(3000), 1);
        x.clear();
        refused(STATE, "explore(3000) behind clear()", () -> x.explore(3000));
    }

    private static void exploreOneToSix() {
        sentence("Promise 17: all crowds, itself as well, of one agent to six");
        // All are alike, and a meeting of two leaders takes one away, until one is left.
        CrowdDesk x = new CrowdDesk();
        x.sum(0);
        x.compile();
        for (int agents = 1; agents <= 6; agents++) {
            x.add(0, 1);
            due("explore(3000) of " + agents, x.explore(3000), agents);
            due("recovers()", x.recovers(), true);
        }
        due("one agent is never met", even(1).explore(1), 1);
        // {L1F, L1F} and {L0T, N0T}.
        due("two agents", even(2).explore(3000), 2);
        // {L1F, L1F, L1F}, {L0T, N0T, L1F}, {L0T, N0F, L1F}, {L1F, N0F, N0T}, {L1F, N0F, N0F}.
        due("three agents", even(3).explore(3000), 5);
    }

    private static void exploreMoreThanSix() {
        sentence("Promise 17: IllegalStateException, when there are more than 6");
        CrowdDesk x = new CrowdDesk();
        x.sum(0);
        x.compile();
        x.add(0, 6);
        due("explore(6) of 6", x.explore(6), 6);
        x.add(0, 1);
        String before = look(x);
        refused(STATE, "explore(3000) of 7", () -> x.explore(3000));
        refused(STATE, "explore(1) of 7", () -> x.explore(1));
        due("a refused one changes nothing", look(x), before);
        x.add(0, 193);
        refused(STATE, "explore(3000) of 200", () -> x.explore(3000));
    }

    private static void exploreOrder() {
        sentence("Promise 17: the argument is looked at first");
        CrowdDesk x = new CrowdDesk();
        refused(ARGUMENT, "explore(0) of nobody", () -> x.explore(0));
        refused(ARGUMENT, "explore(3001) of nobody", () -> x.explore(3001));
        CrowdDesk seven = even(7);
        refused(ARGUMENT, "explore(0) of 7", () -> seven.explore(0));
        refused(ARGUMENT, "explore(3001) of 7", () -> seven.explore(3001));
    }

    private static void exploreJustAsMany() {
        sentence("Promise 17: NONE, when they are more than limit");
        int[] crowds = {1, 2, 5, 10, 16, 28};
        for (int agents = 1; agents <= 6; agents++) {
            CrowdDesk x = even(agents);
            int all = crowds[agents - 1];
            due("explore(3000) of " + agents, x.explore(3000), all);
            due("explore(just as many), " + all, x.explore(all), all);
            due("explore(one more), " + all, x.explore(all + 1), all);
            if (all > 1) {
                due("explore(one less), " + all, x.explore(all - 1), CrowdDesk.NONE);
                due("explore(1), " + all, x.explore(1), CrowdDesk.NONE);
            }
            due("explore(just as many) behind NONE", x.explore(all), all);
        }
    }

    /** A SUM and a MOD atom with these coefficients, compiled. */
    private static CrowdDesk twoAtoms(int[] ofSum, int c, int[] ofMod, int r, int m) {
        CrowdDesk x = new CrowdDesk();
        for (int letter = 0; letter < ofSum.length; letter++) {
            x.coef(letter, ofSum[letter]);
        }
        x.sum(c);
        for (int letter = 0; letter < ofMod.length; letter++) {
            x.coef(letter, ofMod[letter]);
        }
        x.mod(r, m);
        x.compile();
        return x;
    }

    private static void exploreGreatestLimit() {
        sentence("Promise 17: just 3000 crowds, and one less");
        CrowdDesk x = twoAtoms(new int[] {3, 2, -3}, 0, new int[] {-2, -2, -2}, 0, 3);
        x.add(0, 2);
        x.add(1, 2);
        x.add(2, 2);
        due("explore(3000)", x.explore(3000), 3000);
        due("recovers()", x.recovers(), true);
        due("explore(2999)", x.explore(2999), CrowdDesk.NONE);
        refused(STATE, "recovers() behind NONE", x::recovers);
        CrowdDesk y = twoAtoms(new int[] {3, -2}, 2, new int[] {2, 2}, 0, 3);
        y.add(0, 3);
        y.add(1, 3);
        due("explore(3000) of 2999", y.explore(3000), 2999);
        due("recovers()", y.recovers(), true);
        due("explore(2999)", y.explore(2999), 2999);
        due("explore(2998)", y.explore(2998), CrowdDesk.NONE);
    }

    private static void exploreOneMoreThanGreatestLimit() {
        sentence("Promise 17: one crowd more than 3000");
        CrowdDesk x = twoAtoms(new int[] {3, -2}, -2, new int[] {0, -1}, 3, 4);
        x.add(0, 2);
        x.add(1, 4);
        due("explore(3000) of 3001", x.explore(3000), CrowdDesk.NONE);
        refused(STATE, "recovers() behind NONE", x::recovers);
        x.meet(0, 1);
        due("explore(3000) behind a meeting", x.explore(3000), 2756);
        due("recovers()", x.recovers(), true);
    }

    private static void exploreStays() {
        sentence("Promise 17: the crowd stays as it is");
        CrowdDesk x = even(6);
        x.meet(2, 4);
        x.meet(5, 0);
        String before = look(x);
        due("explore(2)", x.explore(2), CrowdDesk.NONE);
        due("it is as before", look(x), before);
        int all = x.explore(3000);
        due("explore(3000) again", x.explore(3000), all);
        due("a state", x.state(5, 0, 0), 0);
        due("meet(5, 0), as before", x.meet(5, 0), false);
        due("size()", x.size(), 6);
    }

    private static void exploreBags() {
        sentence("Promise 17: crowds are bags of agents' states, whatever their order");
        int[][] orders = {{0, 0, 1, 2}, {2, 1, 0, 0}, {0, 1, 0, 2}, {1, 0, 2, 0}};
        for (int[] order : orders) {
            CrowdDesk x = difference(0);
            for (int letter : order) {
                x.add(letter, 1);
            }
            due("explore(3000) of any order", x.explore(3000), 14);
        }
        // The opinion of the one that does not lead goes to and fro, so the first crowd comes again.
        CrowdDesk again = even(3);
        again.meet(0, 1);
        due("explore(3000) of a crowd that comes again", again.explore(3000), 4);
        due("explore(4)", again.explore(4), 4);
        due("explore(3)", again.explore(3), CrowdDesk.NONE);
        CrowdDesk inOrder = even(3);
        inOrder.meet(2, 0);
        due("explore(3000) of it in another order", inOrder.explore(3000), 4);
        CrowdDesk x = new CrowdDesk();
        x.coef(0, 1);
        x.sum(1);
        x.coef(1, 1);
        x.sum(1);
        x.compile();
        x.add(0, 1);
        x.add(1, 1);
        // Whoever meets whom, one leads both atoms with 1 and 1, the other has 0 and 0.
        due("explore(3000) of two atoms", x.explore(3000), 2);
        due("explore(1)", x.explore(1), CrowdDesk.NONE);
    }

    private static void recoversNothingExplored() {
        sentence("Promise 18: IllegalStateException, when nothing was explored");
        CrowdDesk x = new CrowdDesk();
        refused(STATE, "recovers() of a new object", x::recovers);
        x.coef(1, 1);
        x.mod(0, 2);
        refused(STATE, "recovers() before compile()", x::recovers);
        x.compile();
        refused(STATE, "recovers() of nobody", x::recovers);
        x.add(1, 2);
        refused(STATE, "recovers() before explore", x::recovers);
        refused(ARGUMENT, "explore(0)", () -> x.explore(0));
        refused(STATE, "recovers() behind a refused explore", x::recovers);
        due("explore(2)", x.explore(2), 2);
        due("recovers() behind explore", x.recovers(), true);
        due("recovers() again", x.recovers(), true);
        x.clear();
        refused(STATE, "recovers() behind clear()", x::recovers);
        CrowdDesk seven = even(7);
        refused(STATE, "explore(3000) of 7", () -> seven.explore(3000));
        refused(STATE, "recovers() behind that", seven::recovers);
    }

    private static void recoversNone() {
        sentence("Promise 18: IllegalStateException, when its answer was NONE");
        CrowdDesk x = even(3);
        due("explore(4)", x.explore(4), CrowdDesk.NONE);
        refused(STATE, "recovers() behind NONE", x::recovers);
        due("explore(5)", x.explore(5), 5);
        due("recovers() behind 5", x.recovers(), true);
        due("explore(4)", x.explore(4), CrowdDesk.NONE);
        refused(STATE, "recovers() behind NONE again", x::recovers);
        refused(STATE, "and again", x::recovers);
    }

    private static void recoversAdded() {
        sentence("Promise 18: IllegalStateException, when agents were added since");
        CrowdDesk x = even(2);
        x.explore(3000);
        x.add(1, 1);
        refused(STATE, "recovers() behind add(1, 1)", x::recovers);
        x.explore(3000);
        due("recovers() behind another explore", x.recovers(), true);
        x.add(0, 197);
        refused(STATE, "recovers() behind add(0, 197)", x::recovers);
    }

    private static void recoversNoneAdded() {
        sentence("Promise 18: add of no agents adds none");
        CrowdDesk x = even(2);
        x.explore(3000);
        for (int letter = 0; letter < 8; letter++) {
            x.add(letter, 0);
            due("recovers() behind add(" + letter + ", 0)", x.recovers(), true);
        }
    }

    private static void recoversMet() {
        sentence("Promise 18: IllegalStateException, when agents were changed by a meeting since");
        CrowdDesk x = even(3);
        x.explore(3000);
        due("meet(0, 1)", x.meet(0, 1), true);
        refused(STATE, "recovers() behind it", x::recovers);
        x.explore(3000);
        due("recovers() behind another explore", x.recovers(), true);
        due("meet(2, 0)", x.meet(2, 0), true);
        refused(STATE, "recovers() behind it", x::recovers);
        due("meet(2, 0) again", x.meet(2, 0), false);
        refused(STATE, "recovers() behind that, too", x::recovers);
        x.explore(3000);
        due("meet(1, 2), which changes an opinion alone", x.meet(1, 2), true);
        refused(STATE, "recovers() behind it", x::recovers);
    }

    private static void recoversMetForNothing() {
        sentence("Promise 18: a meeting that changed nothing does not count");
        CrowdDesk x = even(3);
        x.meet(0, 1);
        x.explore(3000);
        due("meet(0, 1)", x.meet(0, 1), false);
        due("recovers() behind it", x.recovers(), true);
        due("meet(1, 0)", x.meet(1, 0), false);
        due("recovers() behind it", x.recovers(), true);
        due("meet(1, 2)", x.meet(1, 2), true);
        refused(STATE, "recovers() behind one that does", x::recovers);
    }

    private static void recoversSwept() {
        sentence("Promise 18: IllegalStateException, when agents were changed by a sweep's meeting since");
        CrowdDesk x = even(3);
        x.explore(3000);
        due("sweep(1)", x.sweep(1), 2);
        refused(STATE, "recovers() behind it", x::recovers);
        x.explore(3000);
        due("sweep(1), one meeting of it", x.sweep(1), 1);
        refused(STATE, "recovers() behind it", x::recovers);
        due("sweep(1), none of it", x.sweep(1), 0);
        refused(STATE, "recovers() behind that, too", x::recovers);
    }

    private static void recoversSweptForNothing() {
        sentence("Promise 18: a sweep that changed nothing does not count");
        CrowdDesk x = even(3);
        x.sweep(500);
        due("explore(1)", x.explore(1), 1);
        due("sweep(500)", x.sweep(500), 0);
        due("recovers() behind it", x.recovers(), true);
        CrowdDesk one = even(1);
        due("explore(1) of one", one.explore(1), 1);
        due("sweep(1) of one", one.sweep(1), 0);
        due("recovers() behind it", one.recovers(), true);
    }

    private static void recoversRefusedCalls() {
        sentence("Promise 18: calls that are refused change nothing");
        CrowdDesk x = even(3);
        x.explore(3000);
        refused(ARGUMENT, "add(8, 1)", () -> x.add(8, 1));
        refused(ARGUMENT, "add(0, -1)", () -> x.add(0, -1));
        refused(STATE, "add(0, 198)", () -> x.add(0, 198));
        refused(ARGUMENT, "meet(1, 1)", () -> x.meet(1, 1));
        refused(INDEX, "meet(0, 3)", () -> x.meet(0, 3));
        refused(ARGUMENT, "sweep(0)", () -> x.sweep(0));
        refused(ARGUMENT, "sweep(501)", () -> x.sweep(501));
        refused(STATE, "sum(0)", () -> x.sum(0));
        refused(STATE, "mod(0, 2)", () -> x.mod(0, 2));
        refused(STATE, "combine(2, 0, 0)", () -> x.combine(2, 0, 0));
        refused(STATE, "compile()", x::compile);
        refused(ARGUMENT, "explore(0)", () -> x.explore(0));
        refused(ARGUMENT, "explore(3001)", () -> x.explore(3001));
        answers(true, "recovers()", x::recovers);
    }

    private static void recoversBehindQuestions() {
        sentence("Promise 18: calls that only ask change nothing");
        CrowdDesk x = even(3);
        x.explore(3000);
        x.coef(0, 5);
        x.size();
        x.output(0);
        x.state(0, 0, 0);
        x.truth();
        x.silent();
        x.agree();
        x.table(0, 1);
        x.rule(0, 0, 2);
        x.kind(0, 0, 0);
        answers(true, "recovers()", x::recovers);
        due("meet(0, 1), as if nothing was asked", x.meet(0, 1), true);
        expectState(x, 0, 0, 0, 1, 1);
    }

    private static void recoversLatestExplore() {
        sentence("Promise 18: the latest explore counts, of whatever crowd was explored before");
        CrowdDesk x = even(6);
        x.explore(3000);
        for (int met = 1; met < 6; met++) {
            x.meet(0, met);
            due("explore(3000) finds some", x.explore(3000) > 0, true);
            due("recovers() behind meeting " + met, x.recovers(), true);
        }
        x.clear();
        x.coef(0, 1);
        x.sum(2);
        x.compile();
        x.add(0, 1);
        due("explore(1) of another formula", x.explore(1), 1);
        due("recovers(): one agent of 1 >= 2", x.recovers(), true);
    }

    private static void recoversTruth() {
        sentence("Promise 18: each output is truth, be it true or false");
        for (int c = -3; c <= 3; c++) {
            CrowdDesk x = difference(c);
            x.add(0, 2);
            x.add(1, 2);
            x.explore(3000);
            due("truth() of 0 >= " + c, x.truth(), c <= 0);
            due("recovers()", x.recovers(), true);
        }
        for (int r = 0; r < 3; r++) {
            CrowdDesk x = rest(r, 3);
            x.add(1, 4);
            x.explore(3000);
            due("truth() of 4 by 3 leaves " + r, x.truth(), r == 1);
            due("recovers()", x.recovers(), true);
        }
        // A node outside the formula may think what it likes.
        CrowdDesk outside = new CrowdDesk();
        outside.coef(0, 1);
        outside.sum(2);
        outside.coef(0, 1);
        outside.mod(0, 2);
        outside.compile();
        outside.add(0, 3);
        outside.explore(3000);
        due("truth()", outside.truth(), false);
        due("recovers()", outside.recovers(), true);
    }
}
