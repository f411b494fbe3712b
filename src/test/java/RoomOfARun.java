import com.sun.management.ThreadMXBean;
import java.lang.management.ManagementFactory;

/** What the dearest runs of 512 calls make: all calls of one run live in one small room. */
public final class RoomOfARun extends Checks {
    private static final int CALLS = 512;
    // An object's rows, and those of its first explore, in bytes; a call makes nothing besides.
    private static final long MOST_OF_OBJECT = 24_000;
    private static final long MOST_OF_EXPLORER = 240_000;

    private static final ThreadMXBean THREADS = (ThreadMXBean) ManagementFactory.getThreadMXBean();

    private interface Run {
        void make();
    }

    public static void main(String[] args) {
        expectAtMost(MOST_OF_OBJECT, "a new object", RoomOfARun::onlyMade);
        expectAtMost(MOST_OF_OBJECT, "the longest tables, again and again", RoomOfARun::compiles);
        expectAtMost(MOST_OF_OBJECT, "sweeps of 200", RoomOfARun::sweeps);
        expectAtMost(MOST_OF_OBJECT, "questions to 200", RoomOfARun::questions);
        expectAtMost(MOST_OF_OBJECT, "every rule sought", RoomOfARun::rules);
        expectAtMost(MOST_OF_EXPLORER, "explores that find too many", RoomOfARun::explores);
        expectAtMost(MOST_OF_EXPLORER, "explores of many crowds, and whether they recover", RoomOfARun::recoveries);
        finish();
    }

    private static void expectAtMost(long most, String name, Run run) {
        sentence("Little is made by " + name);
        // The first time classes are loaded, which is no work of the run.
        run.make();
        long thread = Thread.currentThread().getId();
        long before = THREADS.getThreadAllocatedBytes(thread);
        run.make();
        long bytes = THREADS.getThreadAllocatedBytes(thread) - before;
        due(bytes + " bytes are at most " + most, bytes <= most, true);
    }

    private static void onlyMade() {
        new CrowdDesk().size();
    }

    /** Five atoms with 87 states each; letters 0 to 5 are all different. */
    private static int compileLongest(CrowdDesk x) {
        for (int atom = 0; atom < 5; atom++) {
            for (int letter = 0; letter < 6; letter++) {
                x.coef(letter, (letter % 2 == 0 ? 20 : -20) + (letter / 2 + atom) % 5 * (letter % 2 == 0 ? -1 : 1));
            }
            x.sum(20);
        }
        x.compile();
        return 36;
    }

    private static void compiles() {
        CrowdDesk x = new CrowdDesk();
        for (int made = 0; made + 37 <= CALLS; made += 37) {
            compileLongest(x);
            x.clear();
        }
    }

    private static CrowdDesk crowdOf200() {
        CrowdDesk x = new CrowdDesk();
        compileLongest(x);
        for (int letter = 0; letter < 5; letter++) {
            x.add(letter, 40);
        }
        return x;
    }

    private static void sweeps() {
        CrowdDesk x = crowdOf200();
        for (int made = 41; made < CALLS; made++) {
            x.sweep(made % 7 == 0 ? 500 : 1);
        }
    }

    private static void questions() {
        CrowdDesk x = crowdOf200();
        for (int made = 41; made + 6 <= CALLS; made += 6) {
            x.silent();
            x.agree();
            x.truth();
            x.output(made % 200);
            x.state(made % 200, 4, 0);
            x.meet(made % 200, (made + 7) % 200);
        }
    }

    private static void rules() {
        CrowdDesk x = new CrowdDesk();
        compileLongest(x);
        for (int made = 37; made + 3 <= CALLS; made += 3) {
            int last = x.table(made % 5, 1) - 1;
            x.rule(made % 5, last - made, 3);
            x.kind(made % 5, made % 87, 2);
        }
    }

    private static void explores() {
        CrowdDesk x = new CrowdDesk();
        int made = compileLongest(x);
        for (int letter = 0; letter < 6; letter++) {
            x.add(letter, 1);
            made++;
        }
        for (; made < CALLS; made++) {
            x.explore(made % 16 == 0 ? 3000 : 30);
        }
    }

    private static void recoveries() {
        CrowdDesk x = new CrowdDesk();
        int made = 0;
        while (made + 10 <= CALLS) {
            x.clear();
            x.coef(0, 3);
            x.coef(1, -2);
            x.sum(1);
            x.compile();
            x.add(0, 2);
            x.add(1, 2);
            x.explore(3000);
            x.recovers();
            x.sweep(1);
            made += 10;
        }
    }
}
