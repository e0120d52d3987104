import java.io.IOException;

/** The edges that the promises name, promise by promise; 2 to 5 are in TextTest, the bounds of each number in BoundsTest. */
public final class EdgeTest extends Sentences {
    private static final int LEAST = Integer.MIN_VALUE, MOST = Integer.MAX_VALUE;
    private static final String PAIR = "farmer 1 50;miller 2 60;";
    private static final String POOR = "miller 1 0;miller 1 0;miller 1 0;miller 1 0;";

    private EdgeTest() throws IOException {
        super("EdgeTest");
    }

    public static void main(String[] args) throws IOException {
        EdgeTest t = new EdgeTest();
        t.newObject();
        t.rule();
        t.ones();
        t.coversAndOdds();
        t.alter();
        t.sign();
        t.insure();
        t.drop();
        t.shift();
        t.plans();
        t.week();
        t.runs();
        t.least();
        t.safeAndFair();
        t.help();
        t.helpRefused();
        t.spare();
        t.dear();
        t.means();
        t.forecast();
        t.debts();
        t.see();
        t.fits();
        t.look();
        t.drift();
        t.images();
        t.whatAnImageIsNot();
        t.sheets();
        t.lay();
        t.readFaults();
        t.readRefused();
        t.torn();
        t.count();
        t.check.close();
    }

    // ---- 1, 6 to 12

    private void newObject() {
        promise(1, "Nobody, no COVERS; SHEETS have nothing.");
        due("people", x.rule(0), 0);
        due("covers", x.rule(1), 0);
        due("plan", x.rule(4), 0);
        due("the first one", x.one(0, 0), BAD);
        due("the first cover", x.cover(0, 0), BAD);
        due("the first of the plan", x.sky(0), BAD);
        due("image 0", x.back(0), STATE);
        due("image 1", x.back(1), STATE);
        due("cells of sheet 0", x.count(3), NONE);
        for (int k = 0; k < 4; k++) {
            due("lay " + k, x.lay(k, 0, 0), -11);
            for (int lane = 0; lane < 3; lane++) {
                due("read " + k, x.read(k, lane, 0, 1), 0);
                due("torn " + k, x.torn(), 1);
            }
        }
        due("nothing went", x.rule(3), 0);
    }

    private void rule() {
        promise(6, "0 PEOPLE, 1 COVERS, 2 FLOOR, 3 WEEK, 4 WEATHERS in THE PLAN, 5 who is below FLOOR (bits).");
        for (int n = 0; n <= 4; n++) {
            told("farmer 1 4;".repeat(n));
            due("people", x.rule(0), n);
            due("all are below the floor", x.rule(5), (1 << n) - 1);
        }
        told("farmer 1 4;farmer 1 5;farmer 1 6;farmer 1 0;floor 5;");
        due("just the floor is not below it", x.rule(5), 9);
        x.floor(0);
        due("nobody is below 0", x.rule(5), 0);
        x.floor(99);
        due("all are below 99", x.rule(5), 15);
        x.alter(2, 2, 99);
        due("but 99", x.rule(5), 11);
        for (int n = 0; n <= 5; n++) {
            due("covers", x.rule(1), n);
            x.insure(0, 1, 0, 0, 0);
        }
        for (int n = 0; n <= 8; n++) {
            due("plan", x.rule(4), n);
            x.plan(3);
        }
        letWeeksGo(999);
        due("week", x.rule(3), 999);
    }

    private void ones() {
        promise(7, "Of a ONE: 0 KIND, 1 FIELD, 2 PURSE, 3 COVERS by which he covers, 4 by which he is covered (bits each).");
        told(POOR);
        due("covers by none", x.one(0, 3), 0);
        due("covered by none", x.one(0, 4), 0);
        for (int c = 0; c < 5; c++) {
            x.insure(0, 3, 0, 0, 0);
        }
        due("covers by all", x.one(0, 3), 31);
        due("covered by none", x.one(0, 4), 0);
        due("covered by all", x.one(3, 4), 31);
        x.drop(0);
        due("by the first four", x.one(0, 3), 15);
        x.insure(3, 0, 0, 0, 0);
        due("both", x.one(0, 3), 15);
        due("both", x.one(0, 4), 16);
        due("both", x.one(3, 3), 16);

        promise(8, "100 and GAIN of a ONE in a WEATHER.");
        told("eeler 5 0;miller 1 0;");
        due("the least", x.gain(0, 3), 80);
        due("the most", x.gain(0, 2), 120);
        due("no gain", x.gain(0, 1), 100);
        due("one less", x.gain(1, 0), 99);

        promise(12, "OWED by a ONE to another one. BAD (also alike).");
        told("miller 1 0;miller 1 0;miller 1 0;cover 0 2 sun 20 0;");
        x.week(0);
        for (int p = 0; p < 3; p++) {
            due("alike", x.owed(p, p), BAD);
            for (int q = 0; q < 3; q++) {
                if (p != q) {
                    due(p + " to " + q, x.owed(p, q), p == 0 && q == 2 ? 20 : 0);
                }
            }
        }
        due("alike where there is nobody", x.owed(3, 3), BAD);
        told("farmer 1 0;");
        due("the only one", x.owed(0, 0), BAD);
        due("to nobody", x.owed(0, 1), BAD);
        due("by nobody", x.owed(1, 0), BAD);
    }

    private void coversAndOdds() {
        promise(9, "Of a COVER: 0 who covers, 1 whom, 2 WEATHER, 3 PAYS, 4 PREMIUM.");
        told(POOR);
        int[][] covers = {{0, 3, 0, 0, 0}, {3, 0, 3, 20, 9}, {1, 2, 1, 1, 8}, {2, 1, 2, 19, 1}, {3, 1, 0, 20, 0}};
        for (int[] c : covers) {
            x.insure(c[0], c[1], c[2], c[3], c[4]);
        }
        for (int c = 0; c < 5; c++) {
            for (int what = 0; what < 5; what++) {
                due(c + ", " + what, x.cover(c, what), covers[c][what]);
            }
        }
        due("a sixth", x.cover(5, 0), BAD);

        promise(10, "ODDS of a WEATHER.");
        told("odds 0 10 0 0;");
        due("none", x.odds(0), 0);
        due("all", x.odds(1), 10);
        due("weather 4", x.odds(4), BAD);
        due("weather -1", x.odds(-1), BAD);

        promise(11, "The i-th WEATHER of THE PLAN (from 0).");
        due("of an empty plan", x.sky(0), BAD);
        for (int i = 0; i < 8; i++) {
            due("not yet " + i, x.sky(i), BAD);
            x.plan(3 - i % 4);
            due("the first stays", x.sky(0), 3);
            due("now " + i, x.sky(i), 3 - i % 4);
        }
        due("the 9th", x.sky(8), BAD);
        x.cut(7);
        due("cut off", x.sky(7), BAD);
        due("the last", x.sky(6), 1);
    }

    // ---- 13 to 20

    private void alter() {
        promise(13, "KIND, FIELD, PURSE (what 0 to 2; PURSE 0 to 999) of a ONE becomes v: what it was.");
        told(PAIR);
        int[][] edges = {{0, 0, 3}, {1, 1, 5}, {2, 0, 999}};
        int[] was = {2, 2, 60};
        for (int[] e : edges) {
            int what = e[0];
            due("the least of " + what, x.alter(1, what, e[1]), was[what]);
            due("it is", x.one(1, what), e[1]);
            due("below the least of " + what, x.alter(1, what, e[1] - 1), BAD);
            due("the most of " + what, x.alter(1, what, e[2]), e[1]);
            due("above the most of " + what, x.alter(1, what, e[2] + 1), BAD);
            due("it is", x.one(1, what), e[2]);
        }
        due("a purse beyond what is told", x.alter(1, 2, 100), 999);
        due("what 3", x.alter(1, 3, 1), BAD);
        due("what 4", x.alter(1, 4, 1), BAD);
        due("what -1", x.alter(1, -1, 1), BAD);
        due("the other's kind", x.one(0, 0), 0);
        due("the other's field", x.one(0, 1), 1);
        due("the other's purse", x.one(0, 2), 50);
        due("nobody", x.alter(2, 2, 1), BAD);
        due("the same again", x.alter(1, 2, 100), 100);
    }

    private void sign() {
        promise(14, "WEATHER, PAYS, PREMIUM (what 2 to 4) of a COVER becomes v: what it was.");
        told(PAIR + "cover 0 1 wet 7 8;cover 1 0 sun 1 2;");
        int[][] edges = {{2, 3}, {3, 20}, {4, 9}};
        int[] was = {0, 0, 2, 7, 8};
        for (int[] e : edges) {
            int what = e[0];
            due("0 of " + what, x.sign(0, what, 0), was[what]);
            due("-1 of " + what, x.sign(0, what, -1), BAD);
            due("the most of " + what, x.sign(0, what, e[1]), 0);
            due("above the most of " + what, x.sign(0, what, e[1] + 1), BAD);
            due("it is", x.cover(0, what), e[1]);
        }
        due("who", x.sign(0, 0, 1), BAD);
        due("whom", x.sign(0, 1, 0), BAD);
        due("what 5", x.sign(0, 5, 0), BAD);
        due("what -1", x.sign(0, -1, 0), BAD);
        int[] other = {1, 0, 0, 1, 2};
        for (int what = 0; what < 5; what++) {
            due("the other's " + what, x.cover(1, what), other[what]);
        }
        due("no such cover", x.sign(2, 2, 0), BAD);
    }

    private void insure() {
        promise(15, "A COVER more: its number. BAD (also oneself); FULL.");
        due("nobody", x.insure(0, 1, 0, 0, 0), BAD);
        told("farmer 1 0;");
        due("himself alone", x.insure(0, 0, 0, 0, 0), BAD);
        due("nobody else", x.insure(0, 1, 0, 0, 0), BAD);
        told(POOR);
        for (int p = 0; p < 4; p++) {
            due("oneself", x.insure(p, p, 0, 0, 0), BAD);
        }
        due("the first, least numbers", x.insure(0, 1, 0, 0, 0), 0);
        due("pays -1", x.insure(0, 1, 0, -1, 0), BAD);
        due("pays 21", x.insure(0, 1, 0, 21, 0), BAD);
        due("premium -1", x.insure(0, 1, 0, 0, -1), BAD);
        due("premium 10", x.insure(0, 1, 0, 0, 10), BAD);
        due("weather -1", x.insure(0, 1, -1, 0, 0), BAD);
        due("weather 4", x.insure(0, 1, 4, 0, 0), BAD);
        due("covers", x.rule(1), 1);
        for (int c = 1; c < 5; c++) {
            due("number " + c + ", greatest numbers", x.insure(3, 2, 3, 20, 9), c);
        }
        due("the 6th", x.insure(3, 2, 3, 20, 9), FULL);
        due("covers", x.rule(1), 5);
        x.drop(4);
        due("room again", x.insure(1, 0, 2, 3, 4), 4);
        int[] last = {1, 0, 2, 3, 4};
        for (int what = 0; what < 5; what++) {
            due("the last's " + what, x.cover(4, what), last[what]);
        }
    }

    private void drop() {
        promise(16, "A COVER is dropped (those behind it are one less): how many are left.");
        for (int c = 0; c < 5; c++) {
            told(POOR);
            for (int i = 0; i < 5; i++) {
                x.insure(0, 1, 0, i, 0);
            }
            due("drop(" + c + ")", x.drop(c), 4);
            for (int i = 0; i < 4; i++) {
                due("pays of " + i, x.cover(i, 3), i < c ? i : i + 1);
            }
            due("a fifth", x.cover(4, 3), BAD);
        }
        due("a fifth again", x.drop(4), BAD);
        for (int left = 3; left >= 0; left--) {
            due("left", x.drop(0), left);
        }
        due("none is left", x.drop(0), BAD);
        due("a new one is the first", x.insure(2, 3, 1, 9, 8), 0);
    }

    private void shift() {
        promise(17, "A tenth of ODDS goes from a WEATHER to another one: ODDS of that one then. BAD (also alike); STATE: there is none to go.");
        due("the last tenth of frost", x.shift(3, 2), 4);
        due("none to go", x.shift(3, 2), STATE);
        due("frost", x.odds(3), 0);
        due("wet", x.odds(2), 4);
        for (int w = 0; w < 4; w++) {
            due("alike", x.shift(w, w), BAD);
        }
        for (int tenths = 5; tenths <= 7; tenths++) {
            due("sun to wet", x.shift(0, 2), tenths);
        }
        due("no sun", x.shift(0, 2), STATE);
        for (int tenths = 8; tenths <= 10; tenths++) {
            due("grey to wet", x.shift(1, 2), tenths);
        }
        due("no grey", x.shift(1, 2), STATE);
        due("all is wet", x.odds(2), 10);
        due("back to frost", x.shift(2, 3), 1);
        due("nine are left", x.odds(2), 9);
    }

    private void plans() {
        promise(18, "FLOOR becomes v: what it was.");
        due("99", x.floor(99), 5);
        due("100", x.floor(100), BAD);
        due("-1", x.floor(-1), BAD);
        due("0", x.floor(0), 99);
        due("0 again", x.floor(0), 0);

        promise(19, "A WEATHER more in THE PLAN: how many it has. BAD; FULL.");
        due("weather -1", x.plan(-1), BAD);
        due("weather 4", x.plan(4), BAD);
        for (int n = 1; n <= 8; n++) {
            due("the " + n + "th", x.plan(n % 4), n);
        }
        due("the 9th", x.plan(0), FULL);
        due("it has", x.rule(4), 8);
        due("the last", x.sky(7), 0);

        promise(20, "THE PLAN has its first n WEATHERS alone: how many it had.");
        due("0 of none", x.cut(0), 0);
        due("1 of none", x.cut(1), BAD);
        told("sky sun grey wet frost wet grey sun wet;");
        due("9 of 8", x.cut(9), BAD);
        due("-1", x.cut(-1), BAD);
        due("8 of 8", x.cut(8), 8);
        due("7 of 8", x.cut(7), 8);
        due("8 of 7", x.cut(8), BAD);
        due("2 of 7", x.cut(2), 7);
        due("the first", x.sky(0), 0);
        due("the second", x.sky(1), 1);
        due("the third", x.sky(2), BAD);
        due("a new one comes behind these", x.plan(3), 3);
        due("it", x.sky(2), 3);
        due("none", x.cut(0), 3);
    }

    // ---- 21 to 23

    private void week() {
        promise(21, "A WEEK of a WEATHER: how often somebody FAILS in it. BAD; FULL: WEEK would be 1000.");
        due("with nobody", x.week(3), 0);
        due("weather -1", x.week(-1), BAD);
        due("weather 4", x.week(4), BAD);
        due("one went", x.rule(3), 1);
        told("farmer 1 0;miller 1 0;cover 1 0 wet 5 2;");
        letWeeksGo(998);
        due("the last", x.week(1), 0);
        due("week", x.rule(3), 999);
        int purse = x.one(0, 2);
        int owed = x.count(5);
        for (int w = 0; w < 4; w++) {
            due("WEEK would be 1000", x.week(w), FULL);
        }
        due("week", x.rule(3), 999);
        due("purse", x.one(0, 2), purse);
        due("owed", x.count(5), owed);
    }

    private void runs() {
        promise(22, "THE PLAN from now on: how often somebody FAILS (what 0), who is below FLOOR then (1; bits), the first WEEK of it (from 0) "
            + "in which somebody FAILS (2; NONE: in none), all PURSES (3), all that is OWED (4) then.");
        int[] nobody = {0, 0, NONE, 0, 0, BAD};
        for (int what = 0; what < 6; what++) {
            due("nobody, " + what, x.runs(what), nobody[what]);
        }
        told("miller 1 4;miller 1 0;cover 0 1 frost 5 0;");
        int[] noPlan = {0, 3, NONE, 4, 0, BAD};
        for (int what = 0; what < 6; what++) {
            due("no plan, " + what, x.runs(what), noPlan[what]);
        }
        for (int i = 0; i < 7; i++) {
            x.plan(0);
        }
        due("never", x.runs(2), NONE);
        x.plan(3);
        int[] atLast = {1, 3, 7, 0, 5, BAD};
        for (int what = 0; what < 6; what++) {
            due("in the last week, " + what, x.runs(what), atLast[what]);
        }
        x.cut(0);
        for (int i = 0; i < 8; i++) {
            x.plan(3);
        }
        int[] always = {8, 3, 0, 0, 37, BAD};
        for (int what = 0; what < 6; what++) {
            due("in each week, " + what, x.runs(what), always[what]);
        }
        RainCover other = Check.told("miller 1 4;miller 1 0;cover 0 1 frost 5 0;sky frost frost frost frost frost frost frost frost;");
        same("runs", other);
        told("miller 1 4;miller 1 0;cover 0 1 frost 5 0;sky frost;");
        x.week(3);
        due("what is owed already counts", x.runs(4), 7);
        // Each asked first of a new object, so that no answer can lean on an earlier one.
        int[] first = {1, 3, 2, 7, 2};
        for (int what = 0; what < 5; what++) {
            told("miller 1 9;miller 1 4;cover 0 1 frost 8 0;sky sun wet frost;floor 8;");
            due("asked first, " + what, x.runs(what), first[what]);
            x.cut(0);
            x.plan(1);
            due("another plan, " + what, x.runs(what), new int[] {0, 2, NONE, 19, 0}[what]);
        }

        promise(23, "Likewise: the PURSE of a ONE then.");
        due("nobody", x.ahead(0), BAD);
        told("farmer 1 9;miller 1 8;");
        due("no plan", x.ahead(0), 9);
        due("no plan", x.ahead(1), 8);
        due("no third", x.ahead(2), BAD);
        due("-1", x.ahead(-1), BAD);
        for (int i = 0; i < 8; i++) {
            x.plan(0);
        }
        due("eight weeks of sun", x.ahead(0), 33);
        due("eight weeks of sun", x.ahead(1), 0);
        purses(9, 8);
    }

    // ---- 24 to 29

    private void least() {
        promise(24, "Behind n WEEKS (0 to 4), whatever the WEATHERS: the least PURSE of a ONE (what 0), the first WEATHERS (a number) "
            + "by which it is that (1), the greatest (2).");
        told("farmer 1 50;miller 1 50;boatman 1 0;farmer 5 9;");
        int[][] farmer = {{50, 0, 50}, {47, 3, 53}, {44, 15, 56}, {41, 63, 59}, {38, 255, 62}};
        int[][] miller = {{50, 0, 50}, {49, 0, 53}, {48, 0, 56}, {47, 0, 59}, {46, 0, 62}};
        int[][] boatman = {{0, 0, 0}, {0, 0, 3}, {0, 0, 6}, {0, 0, 9}, {0, 0, 12}};
        for (int n = 0; n <= 4; n++) {
            for (int what = 0; what < 3; what++) {
                due("farmer, " + n + ", " + what, x.least(0, n, what), farmer[n][what]);
                due("miller, " + n + ", " + what, x.least(1, n, what), miller[n][what]);
                due("boatman, " + n + ", " + what, x.least(2, n, what), boatman[n][what]);
            }
        }
        due("wet is the first that empties the purse", x.least(3, 1, 1), 2);
        x.insure(1, 0, 1, 20, 0);
        due("by grey alone", x.least(1, 1, 1), 1);
        due("by grey alone", x.least(1, 2, 1), 5);
        // Sun, then grey: 49, 32, 15 and then all of the 18.
        due("three of grey empty the purse", x.least(1, 4, 1), 21);
        // Paid 20, 20, 19 and 3.
        due("the most of him who is paid", x.least(0, 4, 2), 50 + 4 + 62);
        x.drop(0);
        x.alter(3, 2, 999);
        due("the greatest", x.least(3, 4, 2), 999);
        due("the least", x.least(3, 4, 0), 939);
        due("5 weeks", x.least(0, 5, 0), BAD);
        due("-1 weeks", x.least(0, -1, 0), BAD);
        due("what 3", x.least(0, 4, 3), BAD);
        due("nobody", x.least(4, 4, 0), BAD);
        purses(50, 50, 0, 999);
    }

    private void safeAndFair() {
        promise(25, "PEOPLE who are SAFE for n WEEKS (0 to 4; bits).");
        due("nobody", x.safe(4), 0);
        due("5 weeks", x.safe(5), BAD);
        due("-1 weeks", x.safe(-1), BAD);
        told("farmer 1 17;farmer 1 14;farmer 1 11;farmer 1 8;");
        int[] bits = {15, 15, 7, 3, 1};
        for (int n = 0; n <= 4; n++) {
            due(n + " weeks", x.safe(n), bits[n]);
        }

        promise(26, "The least PREMIUM (0 to 20) of a COVER by which the mean of what who covers PAYS in a WEEK (by ODDS) is no more than it.");
        due("no cover", x.fair(0), BAD);
        told(PAIR + "cover 0 1 frost 0 9;");
        int[][] fair = {{0, 0}, {1, 1}, {9, 1}, {10, 1}, {11, 2}, {19, 2}, {20, 2}};
        for (int[] f : fair) {
            x.sign(0, 3, f[0]);
            due("a tenth of " + f[0], x.fair(0), f[1]);
        }
        due("its own premium is no matter", x.sign(0, 4, 0), 9);
        due("a tenth of 20", x.fair(0), 2);
        x.shift(3, 0);
        due("never", x.fair(0), 0);
        told(PAIR + "cover 0 1 frost 20 0;odds 0 0 0 10;");
        due("always", x.fair(0), 20);
        x.shift(3, 0);
        due("nine tenths of 20", x.fair(0), 18);
        x.sign(0, 3, 19);
        due("nine tenths of 19", x.fair(0), 18);
        x.sign(0, 3, 1);
        due("nine tenths of 1", x.fair(0), 1);
        due("no such cover", x.fair(1), BAD);
    }

    private void help() {
        promise(27, "The COVER more (PAYS so much, 1 to 20, no PREMIUM) by which most are SAFE for 3 WEEKS, more than now, of several the least: "
            + "100 times who covers, 10 times whom, and the WEATHER (what 0), how many are SAFE (1).");
        told("farmer 1 11;farmer 1 99;");
        due("of 1", x.help(1, 0), 103);
        due("of 20", x.help(20, 0), 103);
        due("how many", x.help(20, 1), 2);
        due("of 0", x.help(0, 0), BAD);
        due("of 21", x.help(21, 0), BAD);
        due("what 2", x.help(1, 2), BAD);
        told("farmer 1 10;farmer 1 99;");
        due("of 1 is too little", x.help(1, 0), NONE);
        told("farmer 1 99;farmer 1 11;farmer 1 99;");
        due("of several the least", x.help(3, 0), 13);
        due("how many", x.help(3, 1), 3);
        told("miller 1 9;farmer 1 11;miller 1 99;");
        due("not by him whom it endangers as much", x.help(5, 0), 213);
        told("farmer 1 11;farmer 1 99;cover 0 1 sun 0 0;cover 0 1 sun 0 0;cover 0 1 sun 0 0;cover 0 1 sun 0 0;");
        due("there is room for a fifth", x.help(3, 0), 103);
        due("it did not come", x.rule(1), 4);
        told("farmer 1 11;miller 5 19;");
        due("nobody is safe now", x.safe(3), 0);
        due("one is by the cover", x.help(2, 0), 103);
        due("how many", x.help(2, 1), 1);
        told("farmer 1 11;miller 1 50;cover 1 0 sun 20 0;");
        due("frost endangers one, sun the other", x.safe(3), 0);
        due("one is by the cover", x.help(3, 0), 103);
        due("how many", x.help(3, 1), 1);
        told("eeler 1 17;boatman 1 99;eeler 1 16;");
        due("frost alone endangers", x.help(20, 0), 123);
    }

    private void helpRefused() {
        promise(27, "BAD; FULL; NONE: by none.");
        due("nobody", x.help(1, 0), NONE);
        due("nobody", x.help(20, 1), NONE);
        told("farmer 1 0;");
        due("one alone", x.help(20, 0), NONE);
        told("farmer 1 14;farmer 1 14;");
        due("all are safe", x.help(20, 0), NONE);
        due("all are safe", x.help(20, 1), NONE);
        told("farmer 1 0;farmer 1 0;");
        due("nobody can", x.help(20, 0), NONE);
        told("farmer 1 99;farmer 1 99;farmer 1 99;farmer 1 99;");
        Check.tell(x, "farmer 1 11;farmer 1 0;");
        due("nor can those who were there before", x.help(3, 0), NONE);
        told("farmer 1 11;farmer 1 99;" + "cover 0 1 sun 0 0;".repeat(5));
        due("full", x.help(3, 0), FULL);
        due("full", x.help(3, 1), FULL);
        due("BAD", x.help(0, 0), BAD);
        told("farmer 1 99;farmer 1 99;" + "cover 0 1 sun 0 0;".repeat(5));
        due("full though all are safe", x.help(3, 0), FULL);
    }

    private void spare() {
        promise(28, "The COVER without which most are SAFE for 3 WEEKS, more than now, of several the first (what 0), how many are SAFE (1). "
            + "BAD; NONE: by none.");
        due("nobody", x.spare(0), NONE);
        told("farmer 1 0;farmer 1 0;");
        due("no covers", x.spare(0), NONE);
        due("no covers", x.spare(1), NONE);
        told("farmer 1 99;miller 1 9;" + "cover 0 1 sun 0 0;".repeat(4) + "cover 1 0 sun 9 0;");
        due("the fifth", x.spare(0), 4);
        due("how many", x.spare(1), 2);
        due("it stays", x.rule(1), 5);
        told("farmer 1 99;miller 1 9;cover 1 0 sun 9 0;" + "cover 0 1 sun 0 0;".repeat(4));
        due("the first", x.spare(0), 0);
        told("farmer 1 99;miller 1 9;miller 1 9;cover 1 0 sun 9 0;cover 2 0 sun 9 0;");
        due("of several the first", x.spare(0), 0);
        told("farmer 1 99;miller 1 9;miller 1 9;miller 1 9;cover 1 0 sun 9 0;cover 2 3 sun 20 4;");
        due("that by which most are safe", x.spare(0), 1);
        due("how many", x.spare(1), 3);
        told("miller 1 9;miller 1 4;cover 0 1 sun 9 0;");
        due("nobody is safe now", x.safe(3), 0);
        due("one is without it", x.spare(0), 0);
        due("how many", x.spare(1), 1);
        told("farmer 1 99;miller 1 9;cover 0 1 sun 9 0;cover 0 1 frost 1 0;");
        due("as many are safe without: none", x.spare(0), NONE);
        due("what 2", x.spare(2), BAD);
        due("what -1", x.spare(-1), BAD);
    }

    private void dear() {
        promise(29, "The WEATHER in which most is to be paid by COVERS (PAYS, PREMIUMS) in a WEEK, of several the first (what 0), how much (1).");
        due("no covers", x.dear(0), 0);
        due("no covers", x.dear(1), 0);
        told(PAIR);
        for (int c = 0; c < 5; c++) {
            x.insure(0, 1, 3, 20, 9);
        }
        due("all of them", x.dear(0), 3);
        due("how much", x.dear(1), 145);
        told(PAIR + "cover 0 1 frost 0 9;");
        due("a premium is paid in each", x.dear(0), 0);
        due("how much", x.dear(1), 9);
        told(PAIR + "cover 0 1 frost 5 0;cover 0 1 grey 5 0;cover 0 1 wet 4 0;");
        due("of several the first", x.dear(0), 1);
        due("how much", x.dear(1), 5);
        x.sign(2, 3, 6);
        due("one more", x.dear(0), 2);
        due("what 2", x.dear(2), BAD);
        due("what -1", x.dear(-1), BAD);
    }

    // ---- 30 to 32

    private void means() {
        promise(30, "Behind n WEEKS (0 to 4) by ODDS: the mean of a ONE's PURSE: 0, 1.");
        told("miller 1 0;farmer 1 50;odds 9 1 0 0;");
        long[][] clipped = {{0, 1}, {3, 10}, {51, 100}, {639, 1000}, {6951, 10000}};
        for (int n = 0; n <= 4; n++) {
            due(n + " weeks, above", x.mean(0, n, 0), clipped[n][0]);
            due(n + " weeks, below", x.mean(0, n, 1), clipped[n][1]);
        }
        told("farmer 1 50;");
        due("4 weeks, above", x.mean(0, 4, 0), 256);
        due("4 weeks, below", x.mean(0, 4, 1), 5);
        x.alter(0, 2, 999);
        due("at 999, above", x.mean(0, 4, 0), 4984407);
        due("at 999, below", x.mean(0, 4, 1), 5000);
        due("5 weeks", x.mean(0, 5, 0), BAD);
        due("nobody", x.mean(1, 4, 0), BAD);
        told("farmer 1 50;odds 10 0 0 0;");
        due("sun for sure", x.mean(0, 4, 0), 62);
        due("by 1", x.mean(0, 4, 1), 1);

        promise(31, "Likewise, that it is no less than FLOOR: 0, 1.");
        luck("farmer 1 50;odds 1 3 3 3;floor 62;", 1, 10000);
        luck("farmer 1 50;odds 1 3 3 3;floor 63;", 0, 1);
        luck("farmer 1 50;floor 39;", 9999, 10000);
        luck("farmer 1 50;floor 38;", 1, 1);
        luck("farmer 1 0;floor 0;", 1, 1);
        luck("farmer 1 0;odds 0 0 0 10;floor 1;", 0, 1);
        told("farmer 1 50;floor 50;");
        due("now, just the floor", x.luck(0, 0, 0), 1);
        x.floor(51);
        due("now, below it", x.luck(0, 0, 0), 0);
        due("5 weeks", x.luck(0, 5, 0), BAD);
        due("what 2", x.luck(0, 4, 2), BAD);
        due("nobody", x.luck(1, 4, 0), BAD);
    }

    private void luck(String text, int above, int below) {
        told(text);
        due(text + " above", x.luck(0, 4, 0), above);
        due(text + " below", x.luck(0, 4, 1), below);
    }

    private void forecast() {
        promise(32, "the mean of GAINS above 0 (he stays at home else), less the mean of GAINS, or less 0, if that is below 0: 0, 1.");
        worth("10 0 0 0", 0, 1);
        worth("0 0 0 10", 0, 1);
        worth("5 0 0 5", 3, 2);
        worth("6 0 0 4", 6, 5);
        worth("4 0 0 6", 6, 5);
        worth("1 0 0 9", 3, 10);
        worth("9 0 0 1", 3, 10);
        worth("0 10 0 0", 0, 1);
        told("eeler 5 0;odds 0 10 0 0;");
        due("no gain at all", x.forecast(0, 0), 0);
        due("by 1", x.forecast(0, 1), 1);
        due("nobody", x.forecast(1, 0), BAD);
        due("what 2", x.forecast(0, 2), BAD);
        told("eeler 5 99;odds 0 0 5 5;");
        due("the most that it can be", x.forecast(0, 0), 10);
        due("by 1", x.forecast(0, 1), 1);
    }

    private void worth(String odds, int above, int below) {
        told("farmer 1 0;odds " + odds + ";");
        due(odds + " above", x.forecast(0, 0), above);
        due(odds + " below", x.forecast(0, 1), below);
    }

    // ---- 33, 34

    private void debts() {
        promise(33, "The fewest payments (each from a ONE to another one, of any sum) by which all that is OWED is settled "
            + "(by what is OWED to each less what he OWES).");
        due("nobody", x.pays(), 0);
        told("farmer 1 0;");
        due("one", x.pays(), 0);
        settled("", 0, 0);
        settled("0 1 5;", 1, 5);
        settled("0 1 5;1 0 5;", 0, 10);
        settled("0 1 5;1 0 4;", 1, 9);
        settled("0 1 5;1 2 5;2 3 5;", 1, 15);
        settled("0 1 5;1 2 5;2 3 5;3 0 5;", 0, 20);
        settled("0 1 5;2 3 5;", 2, 10);
        settled("0 1 5;2 3 4;", 2, 9);
        settled("0 1 1;0 2 1;0 3 1;", 3, 3);
        settled("1 0 1;2 0 1;3 0 1;", 3, 3);
        settled("0 2 3;0 3 2;1 3 2;", 3, 7);
        settled("0 2 3;0 3 2;1 2 2;", 2, 7);
        settled("0 1 20;0 2 20;0 3 20;1 2 20;1 3 20;", 3, 100);

        promise(34, "All that is OWED is forgiven: how much it was.");
        due("nobody", x.forgive(), 0);
        told(POOR + "cover 0 1 wet 20 9;cover 2 3 wet 20 9;");
        x.week(2);
        RainCover other = Check.told(POOR + "cover 0 1 wet 0 0;cover 2 3 wet 0 0;");
        other.week(2);
        for (int c = 0; c < 2; c++) {
            other.sign(c, 3, 20);
            other.sign(c, 4, 9);
        }
        due("all", x.forgive(), 58);
        due("nothing more", x.forgive(), 0);
        due("payments", x.pays(), 0);
        same("but for what is owed, forgive", other);
    }

    /** Who, whom, how much is owed; the payments that settle it, and all that is owed. */
    private void settled(String debts, int payments, int all) {
        told(POOR);
        for (String debt : debts.isEmpty() ? new String[0] : debts.split(";")) {
            String[] d = debt.split(" ");
            x.insure(Integer.parseInt(d[0]), Integer.parseInt(d[1]), 3, Integer.parseInt(d[2]), 0);
        }
        x.week(3);
        due("owed by '" + debts + "'", x.count(5), all);
        due("payments by '" + debts + "'", x.pays(), payments);
    }

    // ---- 35 to 38

    private void see() {
        promise(35, "SEEN: behind n WEEKS (1 to 4) from now on the PURSE of a ONE was v (0 to 255): how many are. BAD; FULL.");
        due("nobody", x.see(0, 1, 0), BAD);
        told(PAIR);
        int[][] taken = {{0, 1, 0}, {1, 1, 0}, {0, 4, 0}, {0, 1, 255}, {1, 4, 255}, {0, 2, 50}};
        for (int i = 0; i < 6; i++) {
            due("0 weeks", x.see(0, 0, 0), BAD);
            due("5 weeks", x.see(0, 5, 0), BAD);
            due("-1", x.see(0, 1, -1), BAD);
            due("256", x.see(0, 1, 256), BAD);
            due("no third", x.see(2, 1, 0), BAD);
            due("the " + (i + 1) + "th", x.see(taken[i][0], taken[i][1], taken[i][2]), i + 1);
        }
        due("the 7th", x.see(0, 1, 0), FULL);
        due("how many", x.count(0), 6);
        x.forget(5);
        due("room again", x.see(0, 1, 0), 6);

        promise(36, "SEEN are the first n alone: how many there were.");
        due("0 of none", x.forget(0), 0);
        due("1 of none", x.forget(1), BAD);
        told("farmer 1 50;");
        int[] purses = {47, 44, 41, 38};
        int[] fit = {256, 64, 16, 4, 1};
        for (int n = 0; n < 4; n++) {
            x.see(0, n + 1, purses[n]);
        }
        due("5 of 4", x.forget(5), BAD);
        due("-1", x.forget(-1), BAD);
        due("4 of 4", x.forget(4), 4);
        for (int n = 3; n >= 0; n--) {
            due(n + " of " + (n + 1), x.forget(n), n + 1);
            due("the first " + n + " stay", x.fits(0), fit[n]);
            due((n + 1) + " of " + n, x.forget(n + 1), BAD);
        }
    }

    private void fits() {
        promise(37, "WEATHERS that FIT: how many (what 0), the first (1); 10 and i: WEATHERS of WEEK i (0 to 3) by some of them (bits). "
            + "BAD; NONE (1): there are none.");
        fit("nobody", 256, 0, 15, 15, 15, 15);
        told("farmer 1 50;miller 1 50;");
        fit("nothing seen", 256, 0, 15, 15, 15, 15);
        x.see(0, 4, 38);
        fit("the last of all", 1, 255, 8, 8, 8, 8);
        x.see(0, 4, 39);
        fit("not both", 0, NONE, 0, 0, 0, 0);
        x.forget(0);
        x.see(0, 4, 62);
        fit("the first of all", 1, 0, 1, 1, 1, 1);
        x.forget(0);
        x.see(1, 1, 53);
        fit("grey first", 64, 64, 2, 15, 15, 15);
        x.see(1, 2, 52);
        fit("then no grey", 48, 64, 2, 13, 15, 15);
        x.see(1, 4, 50);
        fit("nor ever", 27, 64, 2, 13, 13, 13);
        x.see(0, 3, 51);
        fit("sun and frost in some order", 6, 76, 2, 9, 9, 13);
        for (int what : new int[] {-1, 2, 3, 9, 14}) {
            due("what " + what, x.fits(what), BAD);
        }
    }

    private void fit(String name, int... due) {
        int[] whats = {0, 1, 10, 11, 12, 13};
        for (int i = 0; i < 6; i++) {
            due(name + ", " + whats[i], x.fits(whats[i]), due[i]);
        }
    }

    private void look() {
        promise(38, "At whose PURSE to look behind how many WEEKS (1 to 4) next so that of WEATHERS that FIT fewest are left at the worst, "
            + "fewer than now: 10 times the ONE and how many WEEKS, of several the least (what 0), how many these are (1). BAD; NONE: at none.");
        looks("nobody", NONE, NONE);
        told("farmer 1 50;");
        x.see(0, 2, 44);
        x.see(0, 3, 41);
        looks("the last week is open", 4, 1);
        x.see(0, 4, 38);
        looks("one fits: not fewer", NONE, NONE);
        x.see(0, 4, 39);
        looks("none fits", NONE, NONE);
        told("miller 1 50;");
        for (int n = 1; n <= 4; n++) {
            x.see(0, n, 50 - n);
        }
        due("all that a miller tells", x.fits(0), 81);
        looks("he tells no more", NONE, NONE);
        // Sun and frost in some order, then frost and frost: the miller does not tell, either farmer does behind the first.
        told("miller 1 50;farmer 1 50;farmer 1 50;");
        x.see(1, 2, 50);
        x.see(1, 3, 47);
        x.see(1, 4, 44);
        due("two fit", x.fits(0), 2);
        looks("of several the least", 11, 1);
        told("miller 1 50;miller 1 50;miller 1 50;farmer 1 50;");
        looks("four people, nothing seen", 33, 24);
        x.alter(0, 0, 0);
        looks("the first as well as the last", 3, 24);
        due("what 2", x.look(2), BAD);
        due("what -1", x.look(-1), BAD);
    }

    private void looks(String name, int where, int many) {
        due(name + ", where", x.look(0), where);
        due(name + ", how many", x.look(1), many);
    }

    // ---- 39

    private void drift() {
        promise(39, "By itself, n WEEKS (1 to 60) by a seed:");
        due("nobody", x.drift(7, 60, 0), 0);
        due("nobody", x.drift(7, 60, 1), 0);
        told("miller 5 99;odds 0 10 0 0;");
        due("0 weeks", x.drift(1, 0, 1), BAD);
        due("1 week", x.drift(1, 1, 1), 114);
        due("60 weeks", x.drift(1, 60, 1), 999);
        due("61 weeks", x.drift(1, 61, 1), BAD);
        x.alter(0, 1, 1);
        due("60 weeks of a small field", x.drift(1, 60, 1), 279);
        due("59 weeks", x.drift(1, 59, 1), 276);
        same("drift", smallMiller());

        promise(39, "in each the seed becomes seed times 1103515245 and 12345; bits 16 to 30 of it modulo 10 tell the WEATHER by ODDS (sun first)");
        // The seeds of the second row set bit 31, which is none of bits 16 to 30.
        int[][] seeds = {{0, 11, 9, 10, 7, 5, 6, 3, 1, 16}, {14, 11, 26, 10, 7, 37, 6, 3, 2, 30}};
        int[] purses = {53, 53, 53, 51, 51, 51, 48, 48, 48, 47};
        for (int figure = 0; figure < 10; figure++) {
            for (int[] row : seeds) {
                told("farmer 1 50;");
                due("figure " + figure, x.drift(row[figure], 1, 1), purses[figure]);
                byOdds(row[figure], figure);
            }
        }
        told("farmer 1 50;");
        int[] weeks = {48, 46, 47, 48, 51, 49, 52, 49, 52, 50, 47, 45};
        for (int n = 1; n <= 12; n++) {
            due("seed 1, " + n, x.drift(1, n, 1), weeks[n - 1]);
        }
        due("the least seed", x.drift(LEAST, 1, 1), 53);
        due("the greatest seed", x.drift(MOST, 1, 1), 47);
        due("-1", x.drift(-1, 3, 1), 47);

        promise(39, "how often somebody FAILS (what 0), all PURSES in the end (1). BAD.");
        told("miller 1 0;miller 1 0;cover 0 1 sun 1 1;odds 10 0 0 0;");
        due("both in each week", x.drift(5, 60, 0), 120);
        due("both in one week", x.drift(5, 1, 0), 2);
        due("all purses", x.drift(5, 60, 1), 0);
        due("what 2", x.drift(5, 60, 2), BAD);
        due("what -1", x.drift(5, 60, -1), BAD);
    }

    private static RainCover smallMiller() {
        return Check.told("miller 1 99;odds 0 10 0 0;");
    }

    /** With one tenth of sun and nine of frost, then none of sun: the figure is told by what is left. */
    private void byOdds(int seed, int figure) {
        told("farmer 1 50;odds 1 0 0 9;");
        due("one of sun, " + figure, x.drift(seed, 1, 1), figure == 0 ? 53 : 47);
        told("farmer 1 50;odds 0 9 1 0;");
        due("no sun, " + figure, x.drift(seed, 1, 1), figure == 9 ? 48 : 51);
        told("farmer 1 50;odds 0 0 0 10;");
        due("frost alone, " + figure, x.drift(seed, 1, 1), 47);
    }

    // ---- 40, 41

    private static RainCover rich() {
        RainCover y = Check.told("farmer 3 10;boatman 2 0;miller 1 4;eeler 2 6;cover 0 1 sun 6 1;cover 1 0 frost 9 2;odds 1 2 3 4;floor 9;sky wet sun;");
        y.week(3);
        return y;
    }

    private static void changeAll(RainCover y) {
        y.week(3);
        for (int p = 0; p < 4; p++) {
            y.alter(p, 0, 3 - p);
            y.alter(p, 1, 5);
            y.alter(p, 2, 900 + p);
        }
        for (int what = 2; what <= 4; what++) {
            y.sign(0, what, 3);
        }
        y.insure(3, 2, 1, 20, 9);
        y.drop(1);
        y.shift(3, 0);
        y.floor(1);
        y.cut(1);
        y.plan(3);
        y.forgive();
    }

    private void images() {
        promise(40, "IMAGE k (0, 1) is PEOPLE, COVERS (all of them), ODDS, FLOOR, THE PLAN, WEEK, what is OWED: whether there was one (1, 0).");
        for (int k = 0; k < 2; k++) {
            x = rich();
            due("none yet", x.keep(k), 0);
            due("images", x.count(1), 1);
            changeAll(x);
            due("week", x.back(k), 1);
            RainCover other = rich();
            other.keep(k);
            same("back", other);
        }
        x = rich();
        x.keep(0);
        changeAll(x);
        due("the other one", x.keep(1), 0);
        due("images", x.count(1), 2);
        due("there was one", x.keep(1), 1);
        due("images", x.count(1), 2);
        due("the first", x.back(0), 1);
        due("its week stays", x.back(0), 1);
        due("the second", x.back(1), 2);
        due("no third", x.keep(2), BAD);
        due("-1", x.keep(-1), BAD);
        due("a later one in its place", x.week(0) + x.keep(0), 1);
        due("it", x.back(0), 3);
        x.alter(0, 2, 777);
        due("purse of now", x.one(0, 2), 777);
        x.back(1);
        due("purse of the image", x.one(0, 2), 900);

        promise(41, "All is as IMAGE k: WEEK. BAD; STATE: there is none.");
        due("none", x.back(0), STATE);
        due("none", x.back(1), STATE);
        due("no third", x.back(2), BAD);
        due("-1", x.back(-1), BAD);
        x.keep(1);
        due("none still", x.back(0), STATE);
        due("week 0", x.back(1), 0);
        letWeeksGo(999);
        x.keep(0);
        x.back(1);
        due("week 999", x.back(0), 999);
        due("the last week is the last again", x.week(0), FULL);
        x.text();
        due("gone by a text", x.back(0), STATE);
    }

    private void whatAnImageIsNot() {
        promise(41, "All is as IMAGE k: WEEK.");
        told("farmer 1 50;");
        x.keep(0);
        x.see(0, 1, 53);
        x.sheet(0, 0, 7);
        x.read(0, 1, 0, 1);
        feedAll("floor");
        due("back", x.back(0), 0);
        due("what was seen stays", x.count(0), 1);
        due("sheets stay", x.count(3), 7);
        due("torn() stays", x.torn(), 3);
        due("the tape stays", x.count(2), 5);
        due("the image stays", x.count(1), 1);
    }

    // ---- 42 to 46

    private void sheets() {
        promise(42, "A SHEET is a new row of CELLS 0: 1. BAD: also n above 40; -10 - 4.");
        for (int lane = 0; lane < 3; lane++) {
            for (int n = 0; n <= 40; n++) {
                due("lane " + lane + ", " + n, x.sheet(0, lane, n), 1);
                due("cells", x.count(3), n);
            }
            due("41", x.sheet(0, lane, 41), BAD);
            due("-1", x.sheet(0, lane, -1), -14);
            due("40 still", x.count(3), 40);
            due("its lane still", x.read(0, lane, 39, 1), 1);
        }
        due("SHEET -1", x.sheet(-1, 0, 1), BAD);
        due("SHEET 4", x.sheet(4, 0, 1), BAD);
        due("lane -1", x.sheet(0, -1, 1), BAD);
        due("lane 3", x.sheet(0, 3, 1), BAD);
        due("the least", x.sheet(0, 0, LEAST), -14);
        due("the greatest", x.sheet(0, 0, MOST), BAD);

        told("farmer 1 50;");
        for (int k = 0; k < 4; k++) {
            x.sheet(k, 2, 20);
            for (int i = 0; i < 20; i++) {
                x.lay(k, i, 9);
            }
            due("full of 9", x.read(k, 2, 0, 20), -20);
            x.sheet(k, 2, 40);
            due("new, of 0", x.read(k, 2, 0, 20), 20);
            due("new, of 0", x.read(k, 2, 20, 20), 20);
        }
        x.sheet(2, 0, 1);
        due("the others stay", x.lay(1, 39, 0), 1);
        due("the others stay", x.lay(3, 39, 0), 1);
        due("this one not", x.lay(2, 39, 0), -12);
    }

    private void lay() {
        promise(43, "CELL i of a SHEET becomes v (its lowest bits): 1. BAD: k; -10 less the FAULT: NULL, INDEX.");
        for (int i : new int[] {LEAST, -1, 0, 40, MOST}) {
            due("nothing, " + i, x.lay(0, i, 0), -11);
        }
        due("SHEET -1", x.lay(-1, 0, 0), BAD);
        due("SHEET 4", x.lay(4, 0, 0), BAD);
        for (int size : new int[] {0, 1, 40}) {
            x.sheet(0, 0, size);
            for (int i : new int[] {LEAST, -1, size, size + 1, MOST}) {
                due(size + " cells, " + i, x.lay(0, i, 0), -12);
            }
        }
        due("the first", x.lay(0, 0, 0), 1);
        due("the last", x.lay(0, 39, 0), 1);
        // A weather is read of a lane's lowest bits: 0 to 3, or it is refused.
        int[] values = {3, 4, -1, 255, 256, 259, -256, -253, 65535, 65536, 65539, -65536, -65533, 1 << 24, LEAST, MOST};
        int[][] weathers = {
            {3, -1, -1, -1, 0, 3, 0, 3, -1, 0, 3, 0, 3, 0, 0, -1},
            {3, -1, -1, -1, -1, -1, -1, -1, -1, 0, 3, 0, 3, 0, 0, -1},
            {3, -1, -1, -1, -1, -1, -1, -1, -1, -1, -1, -1, -1, -1, -1, -1}};
        for (int lane = 0; lane < 3; lane++) {
            for (int i = 0; i < values.length; i++) {
                told("farmer 1 50;");
                x.sheet(1, lane, 3);
                due("lay " + values[i], x.lay(1, 1, values[i]), 1);
                int w = weathers[lane][i];
                due("lane " + lane + ", " + values[i], x.read(1, lane, 1, 1), w < 0 ? -20 : 1);
                due("purse", x.one(0, 2), w < 0 ? 50 : w == 0 ? 53 : 47);
                due("cells beside it stay", x.read(1, lane, 0, 1) + x.read(1, lane, 2, 1), 2);
            }
        }
    }

    /** SHEET 0 has so many INTS, all of them grey, behind so many weeks. */
    private void greys(int size, int weeks) {
        told("farmer 1 50;");
        letWeeksGo(weeks);
        x.alter(0, 2, 50);
        x.sheet(0, 2, size);
        for (int i = 0; i < size; i++) {
            x.lay(0, i, 1);
        }
    }

    private void reads(int f, int n, int went, int fault) {
        int before = x.rule(3);
        int purse = x.one(0, 2);
        due("from " + f + ", " + n, x.read(0, 2, f, n), went);
        due("torn from " + f + ", " + n, x.torn(), fault);
        due("weeks", x.rule(3), before + went);
        due("purse", x.one(0, 2), purse + went);
    }

    private void readFaults() {
        promise(44, "n (0 to 20) WEATHERS are read of a SHEET taken as of a lane, from CELL f on, one behind another as by week(): how many WEEKS went. "
            + "What the machine refuses: those ahead went (its FAULT is asked by torn()).");
        greys(40, 0);
        reads(0, 0, 0, 0);
        reads(0, 1, 1, 0);
        reads(0, 20, 20, 0);
        reads(20, 20, 20, 0);
        reads(21, 20, 19, 2);
        reads(39, 1, 1, 0);
        reads(39, 2, 1, 2);
        reads(40, 1, 0, 2);
        reads(-1, 20, 0, 2);
        reads(MOST, 20, 0, 2);
        reads(LEAST, 20, 0, 2);
        reads(0, 1, 1, 0);
        due("21", x.read(0, 2, 0, 21), BAD);
        due("-1", x.read(0, 2, 0, -1), BAD);
        greys(0, 0);
        reads(0, 1, 0, 2);
        greys(1, 0);
        reads(0, 20, 1, 2);
        reads(1, 20, 0, 2);

        promise(44, "taken as of a lane");
        for (int lane = 0; lane < 3; lane++) {
            x.sheet(0, lane, 0);
            x.sheet(1, lane, 5);
            for (int as = 0; as < 3; as++) {
                due("no cells, " + lane + " as " + as, x.read(0, as, 0, 1), 0);
                due("torn", x.torn(), lane == as ? 2 : 3);
                due("five cells, " + lane + " as " + as, x.read(1, as, 0, 3), lane == as ? 3 : 0);
                due("torn", x.torn(), lane == as ? 0 : 3);
                due("nothing as " + as, x.read(2, as, -1, 20), 0);
                due("torn", x.torn(), 1);
            }
            due("lane 3", x.read(0, 3, 0, 1), BAD);
            due("lane -1", x.read(0, -1, 0, 1), BAD);
        }
    }

    private void readRefused() {
        promise(44, "-20 less i: the i-th is refused by week() (in whichever way): then none went; the first met.");
        for (int i = 0; i < 20; i++) {
            greys(20, 0);
            x.lay(0, i, 4);
            RainCover other = x;
            greys(20, 0);
            x.lay(0, i, 4);
            due("the weather " + i, x.read(0, 2, 0, 20), -20 - i);
            same("read", other);
        }
        greys(3, 0);
        x.lay(0, 2, -1);
        due("ahead of what the machine refuses", x.read(0, 2, 0, 20), -22);
        reads(0, 2, 2, 0);
        due("a weather behind what the machine refuses", x.read(0, 2, -1, 20), 0);
        greys(20, 0);
        x.lay(0, 5, 9);
        x.lay(0, 3, 9);
        due("the first met", x.read(0, 2, 0, 20), -23);
        due("one that is not read", x.read(0, 2, 6, 14), 14);

        greys(20, 979);
        reads(0, 20, 20, 0);
        due("WEEK would be 1000", x.read(0, 2, 0, 1), -20);
        reads(0, 0, 0, 0);
        greys(20, 980);
        due("the last would be 1000", x.read(0, 2, 0, 20), -39);
        due("none went", x.rule(3), 980);
        reads(0, 19, 19, 0);
        greys(3, 996);
        reads(0, 20, 3, 2);
        greys(4, 996);
        due("WEEK would be 1000 ahead of INDEX", x.read(0, 2, 0, 20), -23);
        due("none went", x.rule(3), 996);
    }

    private void torn() {
        promise(45, "The FAULT of the latest read() that came to an end; 0.");
        due("at first", x.torn(), 0);
        due("NULL", x.read(0, 0, 0, 1) + 10 * x.torn(), 10);
        due("BAD by k", x.read(4, 0, 0, 1), BAD);
        due("BAD by its lane", x.read(0, 3, 0, 1), BAD);
        due("BAD by n", x.read(0, 0, 0, 21), BAD);
        due("NULL still", x.torn(), 1);
        x.sheet(0, 0, 2);
        due("CAST", x.read(0, 1, 0, 1) + 10 * x.torn(), 30);
        x.lay(0, 1, 4);
        due("refused", x.read(0, 0, 0, 2), -21);
        due("CAST still", x.torn(), 3);
        due("INDEX", x.read(0, 0, 2, 1) + 10 * x.torn(), 20);
        due("SIZE is not of read()", x.sheet(0, 0, -1), -14);
        due("INDEX still", x.torn(), 2);
        due("lay finds its own", x.lay(0, 2, 0), -12);
        due("lay finds its own", x.lay(1, 2, 0), -11);
        due("INDEX still", x.torn(), 2);
        due("none", x.read(0, 0, 0, 1) + 10 * x.torn(), 1);
    }

    private void count() {
        promise(46, "How many: 0 SEEN, 1 IMAGES, 2 bytes on THE TAPE, 3 CELLS of SHEET 0 (NONE: nothing), 4 all PURSES, 5 all that is OWED.");
        int[] first = {0, 0, 0, NONE, 0, 0};
        for (int what = 0; what < 6; what++) {
            due("at first, " + what, x.count(what), first[what]);
        }
        due("what 6", x.count(6), BAD);
        due("what -1", x.count(-1), BAD);
        x.sheet(1, 0, 3);
        due("another sheet", x.count(3), NONE);
        x.sheet(0, 0, 0);
        due("no cells", x.count(3), 0);
        x.sheet(0, 0, 40);
        due("40 cells", x.count(3), 40);
        for (int bytes = 0; bytes <= 160; bytes++) {
            due("bytes", x.count(2), bytes);
            x.feed(' ');
        }
        due("bytes, full", x.count(2), 160);

        told(POOR + "cover 0 1 sun 20 9;");
        x.week(0);
        due("owed", x.count(5), 29);
        for (int p = 0; p < 4; p++) {
            x.alter(p, 2, 999);
            due("purses", x.count(4), 999 * (p + 1));
        }
        for (int k = 0; k < 2; k++) {
            x.keep(k);
            due("images", x.count(1), k + 1);
        }
        for (int n = 1; n <= 6; n++) {
            x.see(0, 1, 0);
            due("seen", x.count(0), n);
        }
    }
}
