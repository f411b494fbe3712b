/** The boundary cases that the section 'Terms' names, each on both sides of its edge. */
public final class EdgesOfTerms extends Checks {
    public static void main(String[] args) {
        letters();
        nodes();
        atoms();
        atomsAmongThemselves();
        coefficients();
        target();
        sumIsTrue();
        modulus();
        modIsTrue();
        pendingAtFirst();
        pendingBehindAnAtom();
        beginningOfSum();
        beginningOfMod();
        neitherLeads();
        whoLeads();
        atMostS();
        atLeastMinusS();
        sOfCoefficients();
        sOfTarget();
        lessM();
        opinionsOfTheLeader();
        lastNode();
        allAtomsHaveRules();
        untilCompiled();
        sweepOrder();
        silentInEitherOrder();
        statesOfAllLetters();
        orderOfStates();
        orderOfRules();
        finish();
    }

    private static void letters() {
        sentence("Letters are 0 .. 7");
        CrowdDesk x = new CrowdDesk();
        for (int letter = 0; letter < 8; letter++) {
            due("coef of letter " + letter, x.coef(letter, letter + 1), 0);
        }
        for (int letter : new int[] {-1, 8, LEAST, GREATEST}) {
            refused(ARGUMENT, "coef of letter " + letter, () -> x.coef(letter, 1));
        }
        x.sum(0);
        x.compile();
        for (int letter = 0; letter < 8; letter++) {
            due("add of letter " + letter, x.add(letter, 1), letter + 1);
            due("its value", x.state(letter, 0, 0), letter + 1);
        }
        for (int letter : new int[] {-1, 8, LEAST, GREATEST}) {
            refused(ARGUMENT, "add of letter " + letter, () -> x.add(letter, 1));
        }
        due("nobody came", x.size(), 8);
    }

    private static void nodes() {
        sentence("At most 20 nodes");
        due("sum(0) as the 20th", nots(19).sum(0), 19);
        due("mod(0, 2) as the 20th", nots(19).mod(0, 2), 19);
        due("AND as the 20th", nots(19).combine(0, 17, 18), 19);
        due("OR as the 20th", nots(19).combine(1, 17, 18), 19);
        due("NOT as the 20th", nots(19).combine(2, 18, 0), 19);
        CrowdDesk full = nots(20);
        refused(STATE, "sum(0) as the 21st", () -> full.sum(0));
        refused(STATE, "mod(0, 2) as the 21st", () -> full.mod(0, 2));
        refused(STATE, "AND as the 21st", () -> full.combine(0, 0, 1));
        refused(STATE, "OR as the 21st", () -> full.combine(1, 0, 1));
        refused(STATE, "NOT as the 21st", () -> full.combine(2, 19, 0));
        due("the 20 nodes compile", full.compile(), 2);
        due("0 >= 0 with 19 times NOT", full.truth(), false);
    }

    private static void atoms() {
        sentence("At most 5 atoms");
        for (int made = 0; made < 4; made++) {
            CrowdDesk x = new CrowdDesk();
            for (int atom = 0; atom < 4; atom++) {
                due("an atom's node", atom < made ? x.sum(0) : x.mod(0, 2), atom);
            }
            int fifth = made % 2 == 0 ? x.sum(1) : x.mod(1, 2);
            due("the 5th atom's node", fifth, 4);
            refused(STATE, "sum(0) as the 6th atom", () -> x.sum(0));
            refused(STATE, "mod(0, 2) as the 6th atom", () -> x.mod(0, 2));
            due("a node that is no atom", x.combine(0, 0, 4), 5);
            x.compile();
            refused(INDEX, "there is no 6th atom", () -> x.table(5, 0));
            due("there is a 5th one", x.table(4, 0) > 0, true);
        }
    }

    private static void atomsAmongThemselves() {
        sentence("Atoms are numbered from 0 among themselves, too");
        CrowdDesk x = new CrowdDesk();
        x.coef(0, 2);
        due("the first atom", x.sum(0), 0);
        due("NOT", x.combine(2, 0, 0), 1);
        x.coef(0, 3);
        due("the second atom", x.mod(1, 5), 2);
        due("NOT", x.combine(2, 2, 0), 3);
        x.coef(0, 4);
        due("the third atom", x.sum(9), 4);
        x.compile();
        x.add(0, 1);
        expectState(x, 0, 0, 2, 1, 1);
        expectState(x, 0, 1, 3, 1, 0);
        expectState(x, 0, 2, 4, 1, 0);
        refused(INDEX, "a node's number is no atom's", () -> x.state(0, 3, 0));
    }

    private static void coefficients() {
        sentence("Coefficients are -20 .. 20");
        for (int v : new int[] {-20, 20}) {
            CrowdDesk x = new CrowdDesk();
            due("coef(3, " + v + ")", x.coef(3, v), 0);
            due("it is kept", x.coef(3, v), v);
            x.sum(0);
            x.compile();
            x.add(3, 1);
            due("the value", x.state(0, 0, 0), v);
        }
        CrowdDesk x = new CrowdDesk();
        for (int v : new int[] {-21, 21, LEAST, GREATEST}) {
            refused(ARGUMENT, "coef(3, " + v + ")", () -> x.coef(3, v));
        }
        due("none of these was kept", x.coef(3, 0), 0);
    }

    private static void target() {
        sentence("c is -20 .. 20");
        for (int c = -20; c <= 20; c++) {
            due("sum(" + c + ")", new CrowdDesk().sum(c), 0);
        }
        CrowdDesk x = new CrowdDesk();
        for (int c : new int[] {-21, 21, LEAST, GREATEST}) {
            refused(ARGUMENT, "sum(" + c + ")", () -> x.sum(c));
        }
        refused(STATE, "none of these made a node", x::compile);
    }

    private static void sumIsTrue() {
        sentence("A SUM atom is true when the sum is >= c");
        for (int c = -20; c <= 20; c++) {
            CrowdDesk x = difference(c);
            int letter = c > 0 ? 0 : 1;
            int reached = Math.abs(c);
            x.add(letter, reached);
            due("sum " + c + " >= " + c, x.truth(), true);
            x.add(1, 1);
            due("one less", x.truth(), false);
            x.add(0, 1);
            due("as before", x.truth(), true);
            x.add(0, 1);
            due("one more", x.truth(), true);
        }
        CrowdDesk most = new CrowdDesk();
        most.coef(0, 20);
        most.coef(1, -20);
        most.sum(20);
        most.compile();
        most.add(0, 200);
        due("4000 >= 20", most.truth(), true);
        most.sweep(1);
        due("4000 >= 20 behind a sweep", most.truth(), true);
        CrowdDesk least = new CrowdDesk();
        least.coef(7, -20);
        least.sum(-20);
        least.compile();
        least.add(7, 1);
        due("-20 >= -20", least.truth(), true);
        least.add(7, 199);
        due("-4000 >= -20", least.truth(), false);
    }

    private static void modulus() {
        sentence("m is 2 .. 16 and r is 0 .. m - 1");
        for (int m = 2; m <= 16; m++) {
            int modulus = m;
            for (int r = 0; r < m; r++) {
                due("mod(" + r + ", " + m + ")", new CrowdDesk().mod(r, m), 0);
            }
            CrowdDesk x = new CrowdDesk();
            for (int r : new int[] {-1, m, LEAST, GREATEST}) {
                refused(ARGUMENT, "mod(" + r + ", " + m + ")", () -> x.mod(r, modulus));
            }
            due("none of these made a node", x.mod(m - 1, m), 0);
        }
        CrowdDesk x = new CrowdDesk();
        for (int m : new int[] {1, 17, 0, -2, LEAST, GREATEST}) {
            refused(ARGUMENT, "mod(0, " + m + ")", () -> x.mod(0, m));
        }
        refused(STATE, "none of these made a node", x::compile);
    }

    private static void modIsTrue() {
        sentence("A MOD atom is true when the sum is r more than a multiple of m");
        for (int m = 2; m <= 16; m++) {
            for (int r : new int[] {0, 1, m - 1}) {
                CrowdDesk up = rest(r, m);
                for (int count = 0; count <= 2 * m; count++) {
                    due(count + " by " + m + " leaves " + r, up.truth(), count % m == r);
                    up.add(1, 1);
                }
                CrowdDesk down = new CrowdDesk();
                down.coef(1, -1);
                down.mod(r, m);
                down.compile();
                for (int count = 0; count <= 2 * m; count++) {
                    due(-count + " by " + m + " leaves " + r, down.truth(), (count + r) % m == 0);
                    down.add(1, 1);
                }
            }
        }
        CrowdDesk least = new CrowdDesk();
        least.coef(0, -20);
        least.mod(5, 15);
        least.compile();
        least.add(0, 200);
        due("-4000 is 5 more than -4005", least.truth(), true);
    }

    private static void pendingAtFirst() {
        sentence("Pending coefficients are all 0 at first");
        CrowdDesk x = new CrowdDesk();
        for (int letter = 0; letter < 8; letter++) {
            due("coef(" + letter + ", 1)", x.coef(letter, 1), 0);
        }
        CrowdDesk y = new CrowdDesk();
        y.sum(0);
        y.compile();
        for (int letter = 0; letter < 8; letter++) {
            y.add(letter, 1);
            due("value of letter " + letter, y.state(letter, 0, 0), 0);
        }
    }

    private static void pendingBehindAnAtom() {
        sentence("Pending coefficients are all 0 behind each atom");
        CrowdDesk x = new CrowdDesk();
        setAll(x, 3, 0);
        x.sum(0);
        setAll(x, 4, 0);
        refused(ARGUMENT, "a SUM atom that is refused", () -> x.sum(21));
        refused(ARGUMENT, "a MOD atom that is refused", () -> x.mod(2, 2));
        setAll(x, 5, 4);
        x.combine(2, 0, 0);
        setAll(x, 6, 5);
        x.mod(0, 16);
        setAll(x, 7, 0);
        x.compile();
        setAll(x, 8, 7);
        refused(STATE, "an atom when compiled", () -> x.sum(0));
        setAll(x, 9, 8);
        for (int letter = 0; letter < 8; letter++) {
            x.add(letter, 1);
            due("the first atom's of letter " + letter, x.state(letter, 0, 0), 3);
            due("the second atom's of letter " + letter, x.state(letter, 1, 0), 6);
        }
    }

    private static void setAll(CrowdDesk x, int v, int before) {
        for (int letter = 0; letter < 8; letter++) {
            due("coef(" + letter + ", " + v + ")", x.coef(letter, v), before);
        }
    }

    private static void beginningOfSum() {
        sentence("An agent begins with its coefficient, leads, and thinks so if that is >= c");
        CrowdDesk x = new CrowdDesk();
        for (int letter = 0; letter < 8; letter++) {
            x.coef(letter, letter - 4);
        }
        x.sum(-1);
        x.compile();
        for (int letter = 0; letter < 8; letter++) {
            x.add(letter, 1);
            expectState(x, letter, 0, letter - 4, 1, letter - 4 >= -1 ? 1 : 0);
        }
    }

    private static void beginningOfMod() {
        sentence("The value of MOD is brought to 0 .. m - 1 by a multiple of m");
        for (int m = 2; m <= 16; m++) {
            int[] coefficients = {-20, -m, -m - 1 < -20 ? 0 : -m - 1, -1, 1, m - 1, m, 20};
            CrowdDesk x = new CrowdDesk();
            for (int letter = 0; letter < 8; letter++) {
                x.coef(letter, coefficients[letter]);
            }
            x.mod(1, m);
            x.compile();
            for (int letter = 0; letter < 8; letter++) {
                x.add(letter, 1);
                int value = (coefficients[letter] + 20 * m) % m;
                expectState(x, letter, 0, value, 1, value == 1 ? 1 : 0);
            }
        }
    }

    private static void neitherLeads() {
        sentence("If neither leads, nothing happens");
        CrowdDesk x = difference(1);
        x.add(0, 4);
        x.add(1, 2);
        x.meet(2, 0);
        x.meet(3, 1);
        x.meet(4, 5);
        // s is 2: 2 and 0 for both leaders of 1s; -2 and 0 for the leader of -1s.
        x.meet(4, 0);
        expectState(x, 0, 0, 0, 0, 0);
        expectState(x, 1, 0, 0, 0, 1);
        due("opinions differ, nobody leads", x.meet(0, 1), false);
        due("in the other order", x.meet(1, 0), false);
        expectState(x, 0, 0, 0, 0, 0);
        expectState(x, 1, 0, 0, 0, 1);
        due("with a leader something happens", x.meet(2, 0), true);
        expectState(x, 0, 0, 0, 0, 1);
    }

    private static void whoLeads() {
        sentence("One leads, i if it led, else j");
        CrowdDesk x = rest(0, 2);
        x.add(1, 3);
        due("both led", x.meet(1, 0), true);
        expectState(x, 1, 0, 0, 1, 1);
        expectState(x, 0, 0, 0, 0, 1);
        due("only j led", x.meet(0, 2), true);
        expectState(x, 2, 0, 1, 1, 0);
        expectState(x, 0, 0, 0, 0, 0);
        due("only i led", x.meet(2, 0), false);
        due("both led again", x.meet(2, 1), true);
        expectState(x, 2, 0, 1, 1, 0);
        expectState(x, 1, 0, 0, 0, 0);
    }

    /** Agents with values of letters 0 and 1, s as given by the letters and c; 0 meets 1. */
    private static CrowdDesk met(int first, int second, int c) {
        CrowdDesk x = new CrowdDesk();
        x.coef(0, first);
        x.coef(1, second);
        x.sum(c);
        x.compile();
        x.add(0, 1);
        x.add(1, 1);
        x.meet(0, 1);
        return x;
    }

    private static void atMostS() {
        sentence("The leader's value is at most s, the other's is what is left");
        // c = 4, so s is 5 as long as no coefficient is beyond.
        expectState(met(2, 2, 4), 0, 0, 4, 1, 1);
        expectState(met(2, 2, 4), 1, 0, 0, 0, 1);
        expectState(met(2, 3, 4), 0, 0, 5, 1, 1);
        expectState(met(2, 3, 4), 1, 0, 0, 0, 1);
        expectState(met(3, 3, 4), 0, 0, 5, 1, 1);
        expectState(met(3, 3, 4), 1, 0, 1, 0, 1);
        expectState(met(5, 5, 4), 0, 0, 5, 1, 1);
        expectState(met(5, 5, 4), 1, 0, 5, 0, 1);
        expectState(met(20, 20, 20), 0, 0, 21, 1, 1);
        expectState(met(20, 20, 20), 1, 0, 19, 0, 1);
    }

    private static void atLeastMinusS() {
        sentence("The leader's value is at least -s, the other's is what is left");
        expectState(met(-2, -2, 4), 0, 0, -4, 1, 0);
        expectState(met(-2, -2, 4), 1, 0, 0, 0, 0);
        expectState(met(-2, -3, 4), 0, 0, -5, 1, 0);
        expectState(met(-2, -3, 4), 1, 0, 0, 0, 0);
        expectState(met(-3, -3, 4), 0, 0, -5, 1, 0);
        expectState(met(-3, -3, 4), 1, 0, -1, 0, 0);
        expectState(met(-5, -5, 4), 0, 0, -5, 1, 0);
        expectState(met(-5, -5, 4), 1, 0, -5, 0, 0);
        expectState(met(-20, -20, -20), 0, 0, -21, 1, 0);
        expectState(met(-20, -20, -20), 1, 0, -19, 0, 0);
        expectState(met(5, -5, 4), 0, 0, 0, 1, 0);
        expectState(met(5, -5, 4), 1, 0, 0, 0, 0);
    }

    private static void sOfCoefficients() {
        sentence("s is the greatest of |a_0|, .. |a_7|");
        for (int letter = 0; letter < 8; letter++) {
            for (int v : new int[] {-6, 6}) {
                CrowdDesk x = new CrowdDesk();
                for (int other = 0; other < 8; other++) {
                    x.coef(other, 5);
                }
                x.coef(letter, v);
                x.sum(1);
                x.compile();
                // The letter that makes s 6 need not be in the crowd.
                x.add((letter + 1) % 8, 2);
                x.meet(0, 1);
                expectState(x, 0, 0, 6, 1, 1);
                expectState(x, 1, 0, 4, 0, 1);
            }
        }
    }

    private static void sOfTarget() {
        sentence("s is at least |c| + 1");
        // A coefficient of |c| leaves it at |c| + 1, one of |c| + 1 too, one of |c| + 2 does not.
        for (int c : new int[] {-7, 7}) {
            expectState(met(7, 7, c), 0, 0, 8, 1, 1);
            expectState(met(7, 7, c), 1, 0, 6, 0, 1);
            expectState(met(8, 8, c), 0, 0, 8, 1, 1);
            expectState(met(8, 8, c), 1, 0, 8, 0, 1);
            expectState(met(9, 9, c), 0, 0, 9, 1, 1);
            expectState(met(9, 9, c), 1, 0, 9, 0, 1);
        }
        expectState(met(1, 1, 0), 0, 0, 1, 1, 1);
        expectState(met(1, 1, 0), 1, 0, 1, 0, 1);
    }

    private static void lessM() {
        sentence("The leader's value of MOD is v, less m if it is not below m, the other's is 0");
        for (int m = 2; m <= 16; m++) {
            for (int first = 0; first < m; first++) {
                for (int second : new int[] {0, m - 1 - first, m - first, m - 1}) {
                    CrowdDesk x = new CrowdDesk();
                    x.coef(0, first);
                    x.coef(1, second);
                    x.mod(0, m);
                    x.compile();
                    x.add(0, 1);
                    x.add(1, 1);
                    x.meet(0, 1);
                    int v = first + second % m;
                    int value = v < m ? v : v - m;
                    expectState(x, 0, 0, value, 1, value == 0 ? 1 : 0);
                    expectState(x, 1, 0, 0, 0, value == 0 ? 1 : 0);
                }
            }
        }
    }

    private static void opinionsOfTheLeader() {
        sentence("Both opinions become that of the leader's value");
        // Left is 3, which is below c, but the leader's 5 is not.
        expectState(met(4, 4, 4), 1, 0, 3, 0, 1);
        expectState(met(1, 2, 4), 0, 0, 3, 1, 0);
        expectState(met(1, 3, 4), 0, 0, 4, 1, 1);
        expectState(met(1, 3, 4), 1, 0, 0, 0, 1);
        // Left is 0, which is not below c, but the leader's -3 is.
        expectState(met(-1, -2, -2), 1, 0, 0, 0, 0);
    }

    private static void lastNode() {
        sentence("The formula is the last node; the others count only as parts of it");
        CrowdDesk first = new CrowdDesk();
        first.sum(0);
        first.compile();
        first.add(0, 1);
        due("truth() of 0 >= 0", first.truth(), true);
        due("output(0)", first.output(0), true);
        CrowdDesk last = new CrowdDesk();
        last.sum(0);
        last.sum(1);
        last.compile();
        last.add(0, 1);
        due("truth() with 0 >= 1 last", last.truth(), false);
        due("output(0)", last.output(0), false);
        CrowdDesk part = new CrowdDesk();
        part.sum(0);
        part.sum(1);
        part.combine(2, 0, 0);
        part.combine(2, 1, 0);
        part.compile();
        part.add(0, 1);
        due("truth() with NOT of the second last", part.truth(), true);
        due("output(0)", part.output(0), true);
        CrowdDesk early = new CrowdDesk();
        early.sum(1);
        early.combine(2, 0, 0);
        early.mod(1, 2);
        early.compile();
        early.add(0, 1);
        due("truth() with an atom last", early.truth(), false);
        due("output(0)", early.output(0), false);
    }

    private static void allAtomsHaveRules() {
        sentence("All atoms have their rules, also outside the formula");
        CrowdDesk x = new CrowdDesk();
        x.coef(0, 1);
        x.mod(0, 2);
        x.sum(0);
        due("compile() counts both", x.compile(), 4 + 2);
        due("states of the one outside", x.table(0, 0), 4);
        due("rules of the one outside", x.table(0, 1), 8);
        due("a rule of the one outside", x.rule(0, 7, 2), 2);
        due("a state of the one outside", x.kind(0, 3, 0), 1);
        x.add(0, 3);
        x.meet(0, 1);
        x.meet(0, 2);
        expectState(x, 0, 0, 1, 1, 0);
        due("outputs are alike", x.agree(), true);
        due("an opinion outside is left to change", x.silent(), false);
        due("a meeting changes it", x.meet(0, 1), true);
        due("nothing is left", x.silent(), true);
        due("and so no other crowd", x.explore(3000), 1);
    }

    private static void untilCompiled() {
        sentence("The formula can be changed until it is compiled");
        CrowdDesk x = new CrowdDesk();
        x.sum(0);
        x.combine(0, 0, 0);
        refused(STATE, "compile() is refused", x::compile);
        due("sum(0) still", x.sum(0), 2);
        due("mod(0, 2) still", x.mod(0, 2), 3);
        due("combine(2, 3, 0) still", x.combine(2, 3, 0), 4);
        CrowdDesk y = new CrowdDesk();
        y.sum(0);
        y.compile();
        refused(STATE, "sum(0) no more", () -> y.sum(0));
        refused(STATE, "mod(0, 2) no more", () -> y.mod(0, 2));
        refused(STATE, "combine(2, 0, 0) no more", () -> y.combine(2, 0, 0));
        due("one atom's states", y.table(0, 0), 2);
        refused(INDEX, "no second atom", () -> y.table(1, 0));
    }

    private static void sweepOrder() {
        sentence("A sweep: for i from 0 on, for each j above i from i + 1 on: i meets j");
        int[] letters = {2, 0, 1, 1, 0, 2, 1};
        CrowdDesk swept = difference(0);
        CrowdDesk byHand = difference(0);
        for (int letter : letters) {
            swept.add(letter, 1);
            byHand.add(letter, 1);
        }
        for (int sweep = 0; sweep < 3; sweep++) {
            int changes = 0;
            for (int i = 0; i < letters.length; i++) {
                for (int j = i + 1; j < letters.length; j++) {
                    changes += byHand.meet(i, j) ? 1 : 0;
                }
            }
            due("sweep(1)", swept.sweep(1), changes);
            for (int i = 0; i < letters.length; i++) {
                expectState(swept, i, 0, byHand.state(i, 0, 0), byHand.state(i, 0, 1), byHand.state(i, 0, 2));
            }
        }
    }

    private static void silentInEitherOrder() {
        sentence("Silent: no meeting of two different agents, in either order, would change anything");
        CrowdDesk x = rest(0, 2);
        x.add(1, 3);
        due("three leaders", x.silent(), false);
        x.meet(2, 0);
        x.meet(2, 1);
        // 2 leads and thinks false, 1 does so, 0 does not.
        due("only the last and the first would change", x.silent(), false);
        due("they do", x.meet(0, 2), true);
        due("now it is silent", x.silent(), true);
        for (int i = 0; i < 3; i++) {
            for (int j = 0; j < 3; j++) {
                if (i != j) {
                    due("meet(" + i + ", " + j + ")", x.meet(i, j), false);
                }
            }
        }
    }

    private static void statesOfAllLetters() {
        sentence("The states are those with which agents may begin, whatever their letter, and what they lead to");
        CrowdDesk x = new CrowdDesk();
        for (int letter = 0; letter < 8; letter++) {
            x.coef(letter, 4);
        }
        x.mod(0, 8);
        // 4 and 0 alone, and two that do not lead.
        due("no letter with 0", x.compile(), 4);
        CrowdDesk y = new CrowdDesk();
        for (int letter = 0; letter < 7; letter++) {
            y.coef(letter, 4);
        }
        y.coef(7, 2);
        y.mod(0, 8);
        due("the last letter counts", y.compile(), 6);
        CrowdDesk z = new CrowdDesk();
        for (int letter = 0; letter < 8; letter++) {
            z.coef(letter, 20);
        }
        z.sum(20);
        // Leading: 20 and 21. Not leading: 0 to 21, one less by each meeting of 20 with the one before.
        due("one state leads to the next", z.compile(), 2 + 22);
        due("no way below 0", z.kind(0, 0, 0), 0);
    }

    private static void orderOfStates() {
        sentence("States: those that do not lead first, the lower value first, opinion false first");
        CrowdDesk x = new CrowdDesk();
        x.coef(0, 20);
        x.coef(1, -20);
        x.sum(20);
        due("compile()", x.compile(), 87);
        int[] before = {0, -22, 0};
        for (int k = 0; k < 87; k++) {
            int[] kind = {x.kind(0, k, 1), x.kind(0, k, 0), x.kind(0, k, 2)};
            boolean later = kind[0] != before[0] ? kind[0] > before[0]
                : kind[1] != before[1] ? kind[1] > before[1] : kind[2] > before[2];
            due("state " + k + " comes behind the one before", later, true);
            before = kind;
        }
        due("the last one leads", x.kind(0, 86, 1), 1);
        due("its value is s", x.kind(0, 86, 0), 21);
        due("the first one's value is -s", x.kind(0, 0, 0), -21);
    }

    private static void orderOfRules() {
        sentence("Rules: pairs in which a meeting changes one or both, in the order of x, then y");
        CrowdDesk x = difference(0);
        int states = x.table(0, 0);
        int rules = x.table(0, 1);
        due("states", states, 7);
        due("rules", rules, 23);
        int before = -1;
        for (int k = 0; k < rules; k++) {
            int pair = x.rule(0, k, 0) * states + x.rule(0, k, 1);
            due("rule " + k + " comes behind the one before", pair > before, true);
            before = pair;
            boolean changes = x.rule(0, k, 2) != x.rule(0, k, 0) || x.rule(0, k, 3) != x.rule(0, k, 1);
            due("rule " + k + " changes something", changes, true);
        }
    }
}
