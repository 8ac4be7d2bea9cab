import java.lang.management.ManagementFactory;
import java.util.Random;

/** Runs of 512 calls make no objects: all rows are made with the object. Wild arguments make no call throw. */
public final class RoomTest {
    private static final Due DUE = new Due();
    private static final String DEAR = "part 0 9 5;".repeat(6) + "child 1 0 5 0 9;".repeat(6) + "scene 1 0 1;".repeat(5);

    private RoomTest() {
    }

    private static long call(SchoolPlay play, int which, int a, int b, int c) {
        switch (which) {
            case 0: return play.type(a * 65537L * b, c);
            case 1: return play.clear();
            case 2: return play.read();
            case 3: return play.put(a, b);
            case 4: return play.fit(a, b);
            case 5: return play.clash(a, b);
            case 6: return play.best(a);
            case 7: return play.fewest();
            case 8: return play.cast(a, b);
            case 9: return play.takeBest();
            case 10: return play.rehearse(a, b);
            case 11: return play.night();
            case 12: return play.known(a);
            case 13: return play.sat(a);
            case 14: return play.slips(a);
            case 15: return play.cut();
            case 16: return play.plan(a, b, c);
            case 17: return play.behind(a, b);
            case 18: return play.odds();
            case 19: return play.next();
            case 20: return play.hot(a, b);
            case 21: return play.lots(a, b);
            case 22: return play.gains(a);
            case 23: return play.tried(a, b, c, a, b);
            case 24: return play.year(a);
            case 25: return play.forget();
            case 26: return play.leans(a);
            case 27: return play.sign(a);
            case 28: return play.limb(a, b);
            case 29: return play.image(a);
            case 30: return play.from(a);
            case 31: return play.status(a);
            case 32: return play.count(a);
            default: return play.digest();
        }
    }

    private static int wild(Random random) {
        switch (random.nextInt(12)) {
            case 0: return Integer.MIN_VALUE + random.nextInt(3);
            case 1: return Integer.MAX_VALUE - random.nextInt(3);
            case 2: return random.nextInt();
            case 3: return -1;
            default: return random.nextInt(7);
        }
    }

    private static void wildRuns() {
        for (int run = 0; run < 400; run++) {
            Random random = new Random(run);
            SchoolPlay play = new SchoolPlay();
            SchoolPlay again = new SchoolPlay();
            Texts.read(play, run % 2 == 0 ? DEAR : "part 2 0 9;child 9 9 9 9 19;scene 20 0;");
            Texts.read(again, run % 2 == 0 ? DEAR : "part 2 0 9;child 9 9 9 9 19;scene 20 0;");
            boolean alike = true;
            for (int i = 0; i < 480; i++) {
                int which = random.nextInt(34), a = wild(random), b = wild(random), c = wild(random);
                if (which == 1 && random.nextInt(4) > 0) continue;
                alike &= call(play, which, a, b, c) == call(again, which, a, b, c);
            }
            DUE.holds("run " + run + ": the same calls give the same answers", alike);
        }
    }

    private static void roomOfCalls() {
        com.sun.management.ThreadMXBean bean = (com.sun.management.ThreadMXBean) ManagementFactory.getThreadMXBean();
        long id = Thread.currentThread().getId();
        SchoolPlay play = new SchoolPlay();
        Texts.read(play, DEAR);
        play.takeBest();
        bean.getThreadAllocatedBytes(id);
        long before = bean.getThreadAllocatedBytes(id);
        long sum = 0;
        for (int i = 0; i < 480; i++) {
            int which = i % 34;
            sum += which == 16 ? play.plan(4, 40, -1) : call(play, which == 1 ? 7 : which, i % 3 - 1, i % 5 - 1, i % 2);
        }
        long made = bean.getThreadAllocatedBytes(id) - before;
        DUE.holds("480 calls made " + made + " bytes of objects (" + sum + ")", made < 4096);
    }

    private static void roomOfObjects() {
        com.sun.management.ThreadMXBean bean = (com.sun.management.ThreadMXBean) ManagementFactory.getThreadMXBean();
        long id = Thread.currentThread().getId();
        SchoolPlay[] plays = new SchoolPlay[100];
        long before = bean.getThreadAllocatedBytes(id);
        for (int i = 0; i < plays.length; i++) {
            plays[i] = new SchoolPlay();
        }
        long made = (bean.getThreadAllocatedBytes(id) - before) / plays.length;
        DUE.holds("a new object takes " + made + " bytes", made < 16384);
    }

    public static void main(String[] args) {
        wildRuns();
        roomOfCalls();
        roomOfObjects();
        DUE.end();
    }
}
