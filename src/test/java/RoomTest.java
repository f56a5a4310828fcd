import java.lang.management.ManagementFactory;

/** The room: an object is made whole, so that no call afterwards makes an object or an array. */
public final class RoomTest {
    private static final String TEXT = "d6233445566778;p91123456;k9654321;c8111111;p03246810";
    private static final int ROUNDS = 10;
    private static final com.sun.management.ThreadMXBean THREADS =
        (com.sun.management.ThreadMXBean) ManagementFactory.getThreadMXBean();

    public static void main(String[] args) {
        Due due = new Due();
        RoundAsk warm = Laid.at(TEXT);
        due.is("the text is a table", 4, warm.many(0));
        long sum = useAll(warm) + made(Laid.at(TEXT));
        long bytes = made(Laid.at(TEXT));
        // Measuring may take some bytes of its own; one object in each round would be 160 at least.
        due.is("bytes made by ten times all calls, " + bytes + ", are few", 1, bytes < 160 ? 1 : 0);
        long before = allocated();
        RoundAsk one = new RoundAsk();
        long whole = allocated() - before;
        due.is("bytes of an object, " + whole + ", are few", 1, whole < 20_000 ? 1 : 0);
        due.is("used", 1, sum + one.many(0) != Long.MAX_VALUE ? 1 : 0);
        due.end();
    }

    private static long allocated() {
        return THREADS.getThreadAllocatedBytes(Thread.currentThread().getId());
    }

    private static long made(RoundAsk x) {
        long before = allocated();
        for (int k = 0; k < ROUNDS; k++) {
            useAll(x);
        }
        return allocated() - before;
    }

    private static long useAll(RoundAsk x) {
        long sum = x.table(0, 0, 0, TEXT.length()) + x.sheet(1, 2, 100) + x.put(1, 99, 5) + x.cell(1, 99, 2)
            + x.copy(1, 0, 1, 1, 99) + x.lose(1) + x.sheet(1, 0, 3) + x.judge(1, 0, 0, 3);
        sum += x.say(0, 1, 9) + x.swap(0, 1) + x.step(2) + x.courses(3) + x.dine() + x.gets(1, 2) + x.glad(0)
            + x.pays(0, true, 0) + x.best(-1) + x.seats(0, -1) + x.ever(0) + x.mean(0, 0) + x.leaves();
        sum += x.spite(0, 0) + x.lies(0, 0) + x.chair(0) + x.law(0) + x.tell(0) + x.greet(0) + x.as(0, 2)
            + x.forget() + x.ofDish(0, 0) + x.ofGuest(0, 0) + x.worth(0, 0, true) + x.trace() + x.fault()
            + x.many(0);
        return sum;
    }
}
