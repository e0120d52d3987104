import java.lang.management.ManagementFactory;

/** All calls of a run share one room, so no call may make anything, and an object itself must stay small. */
public final class RoomTest {
    private static final com.sun.management.ThreadMXBean THREADS =
        (com.sun.management.ThreadMXBean) ManagementFactory.getThreadMXBean();
    private static final String VALLEY = "farmer 3 10;boatman 2 8;miller 1 4;eeler 2 6;cover 0 1 sun 6 1;"
        + "cover 1 0 wet 9 2;cover 2 3 frost 5 0;floor 4;sky wet frost sun;";

    public static void main(String[] args) {
        Check check = new Check("RoomTest");
        RainCover warm = new RainCover();
        all(warm);
        all(warm);
        long before = allocated();
        RainCover x = new RainCover();
        long made = allocated() - before;
        check.due("an object takes few bytes: " + made, made < 20_000 ? 1 : 0, 1);
        before = allocated();
        long answers = all(x);
        long used = allocated() - before;
        check.due("calls make nothing (answers " + answers + "), bytes: " + used, used < 1000 ? 1 : 0, 1);
        check.close();
    }

    private static long allocated() {
        return THREADS.getThreadAllocatedBytes(Thread.currentThread().getId());
    }

    /** Every call of the face at least once, the dear ones among them. */
    private static long all(RainCover x) {
        long sum = 0;
        for (int i = 0; i < VALLEY.length(); i++) {
            sum += x.feed(VALLEY.charAt(i));
        }
        sum += x.text() + x.fault() + x.feed(32) + x.end(0) + x.rule(5) + x.one(0, 3) + x.gain(0, 0) + x.cover(0, 0);
        sum += x.odds(0) + x.sky(0) + x.owed(0, 1) + x.alter(0, 2, 50) + x.sign(0, 3, 9) + x.insure(0, 1, 0, 1, 1);
        sum += x.drop(3) + x.shift(0, 1) + x.floor(3) + x.plan(1) + x.cut(2) + x.week(3) + x.ahead(0);
        for (int what = 0; what < 5; what++) {
            sum += x.runs(what) + x.count(what) + x.fits(what * 10) + x.fits(what);
        }
        for (int n = 0; n <= 4; n++) {
            sum += x.least(0, n, 1) + x.safe(n) + x.mean(0, n, 0) + x.luck(0, n, 1) + x.see(0, n, 9);
        }
        for (int pays = 1; pays <= 20; pays++) {
            sum += x.help(pays, 0) + x.spare(1) + x.look(0) + x.drift(pays, 60, 0);
        }
        sum += x.fair(0) + x.dear(0) + x.forecast(0, 0) + x.pays() + x.forget(0) + x.look(1) + x.keep(0) + x.back(0);
        for (int k = 0; k < 4; k++) {
            sum += x.sheet(k, 1, 40) + x.lay(k, 0, 1) + x.read(k, 1, 0, 20) + x.read(k, 0, 0, 20) + x.torn();
        }
        return sum + x.forgive() + x.count(5);
    }
}
