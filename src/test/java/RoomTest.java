import java.lang.management.ManagementFactory;

/** A run of the dearest calls makes next to nothing once its tables stand, and the tables are small. */
public final class RoomTest {
    private static long made() {
        var threads = (com.sun.management.ThreadMXBean) ManagementFactory.getThreadMXBean();
        return threads.getThreadAllocatedBytes(Thread.currentThread().getId());
    }

    private static void useAll(ShownPatterns x, int turn) {
        for (char sign : "(a|[bc])+b?".toCharArray()) {
            x.feed(1, sign);
        }
        x.read(turn % 10);
        x.nth((turn + 1) % 10, 10, turn);
        x.say(turn % 10, -1);
        x.about((turn + 1) % 10, 3);
        x.fits(turn % 10, 531441 + turn);
        x.out(turn % 10, 531441 + turn);
        x.row(turn % 10, 12, turn);
        x.parted(turn % 10, (turn + 1) % 10);
        x.inside(turn % 10, (turn + 1) % 10);
        x.show(729 + turn, turn % 2, 0, 9);
        x.back(turn, 1);
        x.paid(turn % 10);
        x.find(2, 63, 10);
        x.next(3);
        x.open(63, 10);
        x.ask(63, 10);
        x.noise(4, 63, 10);
    }

    public static void main(String[] args) {
        Check check = new Check();
        useAll(new ShownPatterns(), 0);
        made();
        long start = made();
        ShownPatterns x = new ShownPatterns();
        long bare = made() - start;
        useAll(x, 0);
        long tables = made() - start;
        for (int turn = 1; turn < 17; turn++) {
            useAll(x, turn);
        }
        long run = made() - start - tables;
        System.out.println(bare + " bytes an object, " + tables + " with all tables, " + run + " in calls behind them");
        check.due("a bare object is small", bare < 20_000 ? 1 : 0, 1);
        check.due("the tables are small", tables < 300_000 ? 1 : 0, 1);
        check.due("calls make nothing but their texts here", run < 20_000 ? 1 : 0, 1);
        check.end();
    }
}
