import java.util.ArrayList;
import java.util.List;

/**
 * Every number of every call: the last that is taken and the first that is refused on each side, in an object with
 * nothing in it, in one with something in every row and in one whose rows are all full; and that a refused call
 * changes nothing. What a call that is taken answers and does is asked in PromiseTest and EdgeTest.
 */
public final class BoundsTest {
    private static final int BAD = -1, FULL = -3;
    private static final int LEAST = Integer.MIN_VALUE, MOST = Integer.MAX_VALUE;

    private interface Call {
        long on(RainCover x, int[] a);
    }

    private interface Maker {
        RainCover make();
    }

    /** From, to; answers that are due below from and above to. */
    private record Range(int from, int to, int below, int above) {
        Range(int from, int to) {
            this(from, to, BAD, BAD);
        }
    }

    private record Entry(String name, Call call, int[] usual, Range[] ranges, boolean refusedWhenFull) { }

    private static final class State {
        final String name;
        final Maker maker;
        final int people, covers, planned, seen, bytes;
        final boolean full;
        final String before;

        State(String name, Maker maker, boolean full, int... rows) {
            this.name = name;
            this.maker = maker;
            this.full = full;
            people = rows[0];
            covers = rows[1];
            planned = rows[2];
            seen = rows[3];
            bytes = rows[4];
            before = Probe.of(maker.make());
        }

        Range ones() {
            return new Range(0, people - 1);
        }

        Range coverNumbers() {
            return new Range(0, covers - 1);
        }
    }

    private static final Range ANY = new Range(LEAST, MOST);
    private static final Range WEATHER = new Range(0, 3);
    private static final Range ZERO_OR_ONE = new Range(0, 1);
    private static final Range WEEKS = new Range(0, 4);
    private static final Range SHEET = new Range(0, 3);
    private static final Range LANE = new Range(0, 2);

    private final Check check = new Check("BoundsTest");
    private final List<Entry> entries = new ArrayList<>();
    private State state;

    public static void main(String[] args) {
        BoundsTest t = new BoundsTest();
        t.all(new State("nothing", RainCover::new, false, 0, 0, 0, 0, 0));
        t.all(new State("something", BoundsTest::something, false, 4, 3, 3, 2, 5));
        t.all(new State("all full", BoundsTest::allFull, true, 4, 5, 8, 6, 160));
        // The number of a ONE is bounded by how many there are, not by how many there may be.
        t.all(new State("three people", () -> Check.told("farmer 1 9;miller 2 8;eeler 3 7;"), false, 3, 0, 0, 0, 0));
        t.check.close();
    }

    /** Four people, three covers, debts, something seen, one image, two sheets, a tape that has begun, a torn sheet. */
    private static RainCover something() {
        RainCover x = Check.told("farmer 3 10;boatman 2 8;miller 1 4;eeler 2 6;cover 0 1 sun 6 1;"
            + "cover 1 0 wet 9 2;cover 2 3 frost 5 0;floor 4;sky wet frost sun;");
        x.week(3);
        x.week(3);
        x.see(0, 1, 9);
        x.see(1, 2, 4);
        x.keep(0);
        x.week(2);
        x.alter(2, 2, 77);
        x.sheet(0, 0, 40);
        x.lay(0, 0, 2);
        x.lay(0, 6, 4);
        x.sheet(1, 1, 3);
        x.lay(1, 1, 1);
        x.read(1, 1, 2, 2);
        for (char c : "sky;s".toCharArray()) {
            x.feed(c);
        }
        return x;
    }

    /** Every row full, and WEEK 999. */
    private static RainCover allFull() {
        RainCover x = Check.told("farmer 1 9;boatman 1 9;miller 1 9;eeler 1 9;");
        for (int i = 0; i < 8; i++) {
            if (i < 5) {
                x.insure(i % 4, (i + 1) % 4, i % 4, 20 - i, 9 - i);
            }
            if (i < 6) {
                x.see(i % 4, 1 + i % 4, 0);
            }
            x.plan(i % 4);
        }
        x.keep(0);
        for (int k = 0; k < 4; k++) {
            x.sheet(k, k % 3, 40);
            x.lay(k, 3, 7);
        }
        for (int i = 0; i < 49; i++) {
            x.read(0, 0, 10, 20);
        }
        x.read(0, 0, 10, 19);
        x.keep(1);
        for (int i = 0; i < 160; i++) {
            x.feed("floor 9;".charAt(i % 8));
        }
        return x;
    }

    private void entry(String name, Call call, int[] usual, Range... ranges) {
        entries.add(new Entry(name, call, usual, ranges, false));
    }

    private void fillingEntry(String name, Call call, int[] usual, Range... ranges) {
        entries.add(new Entry(name, call, usual, ranges, true));
    }

    private void all(State of) {
        state = of;
        entries.clear();
        listWhatThereIs();
        listWhatIsChanged();
        listWhatIsForeseen();
        listImagesAndSheets();
        for (Entry e : entries) {
            bounds(e);
        }
        fits();
    }

    private static int[] of(int... numbers) {
        return numbers;
    }

    private void listWhatThereIs() {
        Range ones = state.ones();
        fillingEntry("feed", (x, a) -> x.feed(a[0]), of(97), new Range(0, 127));
        entry("end", (x, a) -> x.end(a[0]), of(0), new Range(0, state.bytes));
        entry("rule", (x, a) -> x.rule(a[0]), of(0), new Range(0, 5));
        entry("one", (x, a) -> x.one(a[0], a[1]), of(0, 0), ones, new Range(0, 4));
        entry("gain", (x, a) -> x.gain(a[0], a[1]), of(0, 0), ones, WEATHER);
        entry("cover", (x, a) -> x.cover(a[0], a[1]), of(0, 0), state.coverNumbers(), new Range(0, 4));
        entry("odds", (x, a) -> x.odds(a[0]), of(0), WEATHER);
        entry("sky", (x, a) -> x.sky(a[0]), of(0), new Range(0, state.planned - 1));
        entry("owed who", (x, a) -> x.owed(a[0], 1), of(0), ones);
        entry("owed whom", (x, a) -> x.owed(1, a[0]), of(0), ones);
    }

    private void listWhatIsChanged() {
        Range ones = state.ones();
        Range covers = state.coverNumbers();
        entry("alter kind", (x, a) -> x.alter(a[0], 0, a[1]), of(0, 0), ones, new Range(0, 3));
        entry("alter field", (x, a) -> x.alter(a[0], 1, a[1]), of(0, 1), ones, new Range(1, 5));
        entry("alter purse", (x, a) -> x.alter(a[0], 2, a[1]), of(0, 0), ones, new Range(0, 999));
        entry("alter what", (x, a) -> x.alter(a[0], a[1], 1), of(0, 0), ones, new Range(0, 2));
        entry("sign weather", (x, a) -> x.sign(a[0], 2, a[1]), of(0, 0), covers, WEATHER);
        entry("sign pays", (x, a) -> x.sign(a[0], 3, a[1]), of(0, 0), covers, new Range(0, 20));
        entry("sign premium", (x, a) -> x.sign(a[0], 4, a[1]), of(0, 0), covers, new Range(0, 9));
        entry("sign what", (x, a) -> x.sign(a[0], a[1], 1), of(0, 2), covers, new Range(2, 4));
        fillingEntry("insure who", (x, a) -> x.insure(a[0], 1, a[1], 0, 0), of(0, 0), ones, WEATHER);
        fillingEntry("insure whom", (x, a) -> x.insure(1, a[0], 0, a[1], a[2]), of(0, 0, 0),
            ones, new Range(0, 20), new Range(0, 9));
        entry("drop", (x, a) -> x.drop(a[0]), of(0), covers);
        entry("shift", (x, a) -> x.shift(a[0], a[1]), of(1, 2), WEATHER, WEATHER);
        entry("floor", (x, a) -> x.floor(a[0]), of(0), new Range(0, 99));
        fillingEntry("plan", (x, a) -> x.plan(a[0]), of(0), WEATHER);
        entry("cut", (x, a) -> x.cut(a[0]), of(0), new Range(0, state.planned));
        fillingEntry("week", (x, a) -> x.week(a[0]), of(0), WEATHER);
    }

    private void listWhatIsForeseen() {
        Range ones = state.ones();
        entry("runs", (x, a) -> x.runs(a[0]), of(0), new Range(0, 4));
        entry("ahead", (x, a) -> x.ahead(a[0]), of(0), ones);
        entry("least", (x, a) -> x.least(a[0], a[1], a[2]), of(0, 0, 0), ones, WEEKS, new Range(0, 2));
        entry("safe", (x, a) -> x.safe(a[0]), of(0), WEEKS);
        entry("fair", (x, a) -> x.fair(a[0]), of(0), state.coverNumbers());
        fillingEntry("help", (x, a) -> x.help(a[0], a[1]), of(1, 0), new Range(1, 20), ZERO_OR_ONE);
        entry("spare", (x, a) -> x.spare(a[0]), of(0), ZERO_OR_ONE);
        entry("dear", (x, a) -> x.dear(a[0]), of(0), ZERO_OR_ONE);
        entry("mean", (x, a) -> x.mean(a[0], a[1], a[2]), of(0, 0, 0), ones, WEEKS, ZERO_OR_ONE);
        entry("luck", (x, a) -> x.luck(a[0], a[1], a[2]), of(0, 0, 0), ones, WEEKS, ZERO_OR_ONE);
        entry("forecast", (x, a) -> x.forecast(a[0], a[1]), of(0, 0), ones, ZERO_OR_ONE);
        fillingEntry("see", (x, a) -> x.see(a[0], a[1], a[2]), of(0, 1, 0), ones, new Range(1, 4), new Range(0, 255));
        entry("forget", (x, a) -> x.forget(a[0]), of(0), new Range(0, state.seen));
        entry("look", (x, a) -> x.look(a[0]), of(0), ZERO_OR_ONE);
        entry("drift", (x, a) -> x.drift(a[0], a[1], a[2]), of(0, 1, 0), ANY, new Range(1, 60), ZERO_OR_ONE);
    }

    private void listImagesAndSheets() {
        entry("keep", (x, a) -> x.keep(a[0]), of(0), ZERO_OR_ONE);
        entry("back", (x, a) -> x.back(a[0]), of(0), ZERO_OR_ONE);
        entry("sheet", (x, a) -> x.sheet(a[0], a[1], a[2]), of(0, 0, 0), SHEET, LANE, new Range(0, 40, -14, BAD));
        entry("lay", (x, a) -> x.lay(a[0], a[1], a[2]), of(0, 0, 0), SHEET, ANY, ANY);
        entry("read", (x, a) -> x.read(a[0], a[1], a[2], a[3]), of(0, 0, 0, 0), SHEET, LANE, ANY, new Range(0, 20));
        entry("count", (x, a) -> x.count(a[0]), of(0), new Range(0, 5));
    }

    /** Whether all numbers can be as told in this state: where there is nobody, no number of a ONE is. */
    private static boolean canBeTaken(Entry e) {
        for (Range r : e.ranges) {
            if (r.from > r.to) {
                return false;
            }
        }
        return true;
    }

    private void bounds(Entry e) {
        for (int i = 0; i < e.ranges.length; i++) {
            Range r = e.ranges[i];
            if (canBeTaken(e)) {
                taken(e, i, r.from);
                taken(e, i, r.to);
            } else {
                refused(e, i, r.from, BAD);
                refused(e, i, r.to, BAD);
            }
            if (r.from > LEAST) {
                refused(e, i, r.from - 1, canBeTaken(e) ? r.below : BAD);
                refused(e, i, LEAST, canBeTaken(e) ? r.below : BAD);
            }
            if (r.to < MOST) {
                refused(e, i, r.to + 1, canBeTaken(e) ? r.above : BAD);
                refused(e, i, MOST, canBeTaken(e) ? r.above : BAD);
            }
        }
    }

    private static int[] with(int[] usual, int i, int v) {
        int[] a = usual.clone();
        a[i] = v;
        return a;
    }

    private String told(Entry e, int[] a) {
        return state.name + ", " + e.name + java.util.Arrays.toString(a);
    }

    private void taken(Entry e, int i, int v) {
        int[] a = with(e.usual, i, v);
        if (e.refusedWhenFull && state.full) {
            refused(e, i, v, FULL);
            return;
        }
        long answer = e.call.on(state.maker.make(), a);
        check.due(told(e, a) + " is taken, not answered by BAD or FULL", answer == BAD || answer == FULL ? 1 : 0, 0);
    }

    private void refused(Entry e, int i, int v, int answer) {
        int[] a = with(e.usual, i, v);
        RainCover x = state.maker.make();
        check.due(told(e, a), e.call.on(x, a), answer);
        check.due(told(e, a) + " is refused and changes nothing", Probe.of(x).equals(state.before) ? 1 : 0, 1);
    }

    /** What 0, 1 and 10 to 13, but nothing between. */
    private void fits() {
        Entry e = new Entry("fits", (x, a) -> x.fits(a[0]), of(0), new Range[0], false);
        for (int what : of(0, 1, 10, 13)) {
            taken(e, 0, what);
        }
        for (int what : of(-1, 2, 9, 14, LEAST, MOST)) {
            refused(e, 0, what, BAD);
        }
    }
}
