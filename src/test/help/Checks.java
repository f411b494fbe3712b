import java.util.LinkedHashMap;
import java.util.Map;
import java.util.Objects;

/** What the tests share: answers against those that are due, counted by the sentence they test. */
abstract class Checks {
    static final Class<? extends Exception> ARGUMENT = IllegalArgumentException.class;
    static final Class<? extends Exception> STATE = IllegalStateException.class;
    static final Class<? extends Exception> INDEX = IndexOutOfBoundsException.class;

    static final int LEAST = Integer.MIN_VALUE;
    static final int GREATEST = Integer.MAX_VALUE;

    private static final int AGENTS_SEEN = 6;

    private static final Map<String, Integer> CHECKED = new LinkedHashMap<>();
    private static String sentence = "";
    private static int wrong = 0;

    interface Call {
        Object answer();
    }

    /** The sentence of the document that the checks from here on are about. */
    static void sentence(String text) {
        if (CHECKED.putIfAbsent(text, 0) != null) {
            wrong++;
            System.out.println("two tests bear the name: " + text);
        }
        sentence = text;
    }

    static void due(String call, Object got, Object want) {
        CHECKED.merge(sentence, 1, Integer::sum);
        if (!Objects.equals(got, want)) {
            wrong++;
            System.out.println(sentence + ": " + call + " answered " + got + ", due is " + want);
        }
    }

    static void answers(Object want, String call, Call made) {
        due(call, answerOf(made), want);
    }

    static void refused(Class<? extends Exception> want, String call, Call made) {
        due(call, answerOf(made), want);
    }

    /** What a call answers, or the very class of the exception that it throws. */
    private static Object answerOf(Call call) {
        try {
            return call.answer();
        } catch (RuntimeException e) {
            return e.getClass();
        }
    }

    /** x_0 - x_1 >= c, compiled. */
    static CrowdDesk difference(int c) {
        CrowdDesk x = new CrowdDesk();
        x.coef(0, 1);
        x.coef(1, -1);
        x.sum(c);
        x.compile();
        return x;
    }

    /** x_1 is r more than a multiple of m, compiled. */
    static CrowdDesk rest(int r, int m) {
        CrowdDesk x = new CrowdDesk();
        x.coef(1, 1);
        x.mod(r, m);
        x.compile();
        return x;
    }

    /** So many nodes, not compiled: 0 >= 0, and each of the others NOT of the one before it. */
    static CrowdDesk nots(int nodes) {
        CrowdDesk x = new CrowdDesk();
        x.sum(0);
        for (int node = 1; node < nodes; node++) {
            x.combine(2, node - 1, 0);
        }
        return x;
    }

    static void expectState(CrowdDesk x, int i, int atom, int... facts) {
        for (int what = 0; what < 3; what++) {
            int asked = what;
            answers(facts[what], "state(" + i + ", " + atom + ", " + what + ")", () -> x.state(i, atom, asked));
        }
    }

    /** All that can be seen of a desk without changing it, to compare before and after. */
    static String look(CrowdDesk x) {
        StringBuilder seen = new StringBuilder("pending");
        for (int letter = 0; letter < 8; letter++) {
            int pending = x.coef(letter, 0);
            x.coef(letter, pending);
            seen.append(' ').append(pending);
        }
        seen.append(", size ").append(x.size()).append(", truth ").append(answerOf(x::truth));
        seen.append(", silent ").append(x.silent()).append(", agree ").append(x.agree());
        seen.append(", recovers ").append(answerOf(x::recovers));
        int atoms = 0;
        while (!INDEX.equals(answerOf(tableOf(x, atoms)))) {
            seen.append(", atom ").append(answerOf(tableOf(x, atoms)));
            atoms++;
        }
        for (int i = 0; i < x.size() && i < AGENTS_SEEN; i++) {
            seen.append(", agent");
            for (int fact = 0; fact < atoms * 3; fact++) {
                seen.append(' ').append(x.state(i, fact / 3, fact % 3));
            }
        }
        return seen.toString();
    }

    private static Call tableOf(CrowdDesk x, int atom) {
        return () -> x.table(atom, 1);
    }

    static void finish() {
        int all = 0;
        for (Map.Entry<String, Integer> entry : CHECKED.entrySet()) {
            all += entry.getValue();
            if (entry.getValue() == 0) {
                wrong++;
                System.out.println("nothing was checked of: " + entry.getKey());
            }
        }
        System.out.println(CHECKED.size() + " sentences, " + all + " answers, " + wrong + " not as due");
        if (wrong != 0) {
            System.exit(1);
        }
    }
}
