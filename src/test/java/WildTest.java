import java.util.Random;

/** All promises: no call throws, whatever its arguments and whatever went before. */
public final class WildTest {
    private static final int[] EDGES = {Integer.MIN_VALUE, Integer.MIN_VALUE + 1, -65537, -129, -101, -14, -9, -8,
        -2, -1, 0, 1, 2, 3, 4, 5, 6, 7, 8, 9, 10, 31, 32, 99, 100, 101, 255, 65536, Integer.MAX_VALUE - 1,
        Integer.MAX_VALUE};
    private static final int CALLS = 440;

    private final Random random;
    private final RoundAsk x = new RoundAsk();

    private WildTest(long seed) {
        random = new Random(seed);
    }

    public static void main(String[] args) {
        Due due = new Due();
        for (int run = 0; run < 600; run++) {
            new WildTest(run).run(due, run);
        }
        due.end();
    }

    private void run(Due due, int run) {
        if (run % 3 > 0) {
            due.is("table", run % 3 == 1 ? 3 : 2,
                Laid.table(x, run % 3 == 1 ? Laid.THREE : "d22191;p0991;c0x5"));
        }
        int which = 0;
        try {
            for (int k = 0; k < CALLS; k++) {
                which = random.nextInt(35);
                call(which);
            }
            due.is("run " + run, 0, 0);
        } catch (RuntimeException e) {
            due.is("run " + run + ", call of promise " + (which + 1) + " threw " + e, 0, 1);
        }
    }

    private int n() {
        return random.nextInt(3) == 0 ? random.nextInt(4) : EDGES[random.nextInt(EDGES.length)];
    }

    private long call(int which) {
        boolean flag = random.nextBoolean();
        switch (which) {
            case 1: return x.table(n(), n(), n(), n());
            case 2: return x.ofDish(n(), n());
            case 3: return x.ofGuest(n(), n());
            case 4: return x.worth(n(), n(), flag);
            case 5: return x.say(n(), n(), n());
            case 6: return x.swap(n(), n());
            case 7: return x.step(n());
            case 8: return x.courses(n());
            case 9: return x.dine();
            case 10: return x.forget();
            case 11: return x.gets(n(), n());
            case 12: return x.glad(n());
            case 13: return x.pays(n(), flag, n());
            case 14: return x.judge(n(), n(), n(), n());
            case 15: return x.best(n());
            case 16: return x.seats(n(), n());
            case 17: return x.ever(n());
            default: return furtherCall(which);
        }
    }

    private long furtherCall(int which) {
        switch (which) {
            case 18: return x.mean(n(), n());
            case 19: return x.leaves();
            case 20: return x.spite(n(), n());
            case 21: return x.lies(n(), n());
            case 22: return x.chair(n());
            case 23: return x.law(n());
            case 24: return x.sheet(n(), n(), n());
            case 25: return x.lose(n());
            case 26: return x.put(n(), n(), n());
            case 27: return x.cell(n(), n(), n());
            case 28: return x.copy(n(), n(), n(), n(), n());
            case 29: return x.tell(n());
            case 30: return x.greet(n());
            case 31: return x.as(n(), n());
            case 32: return x.trace();
            case 33: return x.fault();
            default: return x.many(n());
        }
    }
}
