/** Each promise of the document, one method a promise: ordinary inputs, edges, wrong inputs; worked out by hand. */
public final class PromiseTest {
    private static final int BAD = -1, STATE = -2, FULL = -3, NONE = -4;
    private static final String VALLEY = "farmer 3 10;boatman 2 8;miller 1 4;eeler 2 6;cover 0 1 sun 6 1;"
        + "cover 1 0 wet 9 2;cover 2 3 frost 5 0;floor 4;sky wet frost sun;";
    private static final String FARMER = "farmer 1 9;";

    private final Check check = new Check("PromiseTest");
    private String promise = "";
    private RainCover x = new RainCover();

    public static void main(String[] args) {
        PromiseTest t = new PromiseTest();
        t.theText();
        t.whatThereIs();
        t.whatIsChanged();
        t.weeks();
        t.whateverTheWeather();
        t.byOdds();
        t.debts();
        t.weathersFromPurses();
        t.imagesAndSheets();
        t.check.close();
    }

    private void due(String call, long got, long want) {
        check.due(promise + ", " + call, got, want);
    }

    private void begin(String name, String text) {
        promise = name;
        x = text.isEmpty() ? new RainCover() : Check.told(text);
    }

    /** A text told to a new object, with the answer and the fault that are due. */
    private void text(String text, int answer, int fault) {
        x = new RainCover();
        due("text of '" + text + "'", Check.tell(x, text), answer);
        due("fault of '" + text + "'", x.fault(), fault);
        due("the tape behind '" + text + "'", x.count(2), 0);
    }

    // ---- 1 to 5

    private void theText() {
        begin("1 new", "");
        int[] rules = {0, 0, 5, 0, 0, 0};
        int[] counts = {0, 0, 0, NONE, 0, 0};
        int[] odds = {3, 3, 3, 1};
        for (int i = 0; i < 6; i++) {
            due("rule(" + i + ")", x.rule(i), rules[i]);
            due("count(" + i + ")", x.count(i), counts[i]);
        }
        for (int i = 0; i < 4; i++) {
            due("odds(" + i + ")", x.odds(i), odds[i]);
            due("lay(" + i + ")", x.lay(i, 0, 0), -11);
        }
        due("one(0, 0)", x.one(0, 0), BAD);
        due("cover(0, 0)", x.cover(0, 0), BAD);

        begin("2 feed", "");
        due("0", x.feed(0), 1);
        due("127", x.feed(127), 2);
        due("-1", x.feed(-1), BAD);
        due("128", x.feed(128), BAD);
        for (int i = 3; i <= 160; i++) {
            due("byte " + i, x.feed('a'), i);
        }
        due("byte 161", x.feed('a'), FULL);
        due("BAD ahead of FULL", x.feed(128), BAD);
        due("count(2)", x.count(2), 160);

        begin("3 end", "");
        for (char c : "floor 7;;".toCharArray()) {
            x.feed(c);
        }
        due("-1", x.end(-1), BAD);
        due("more than it has", x.end(10), BAD);
        due("all", x.end(9), 9);
        due("8", x.end(8), 9);
        due("text", x.text(), 1);
        due("floor", x.rule(2), 7);
        due("none", x.end(0), 0);
        x.feed('a');
        due("0 of 1", x.end(0), 1);
        due("count(2)", x.count(2), 0);

        promise = "4, 5 text";
        textsThatAreTaken();
        textsWithFaults();
        whatATextReplaces();
    }

    private void textsThatAreTaken() {
        text("", 0, 0);
        text("   ", 0, 0);
        text("farmer 1 0;", 1, 0);
        text("farmer1 0;", 1, 0);
        text("  eeler  05 99 ;  ", 1, 0);
        due("the eeler's field", x.one(0, 1), 5);
        text("cover 0 1 sun 20 9;farmer 1 1;farmer 1 1;", 3, 0);
        text("cover 0 1sun0 0;farmer1 1;farmer1 1;", 3, 0);
        text("odds 3 3 3 1;", 1, 0);
        text("odds 10 0 0 0;", 1, 0);
        due("sun", x.odds(0), 10);
        due("frost", x.odds(3), 0);
        text("odds 0 0 0 10;", 1, 0);
        text("floor 99;", 1, 0);
        text("floor 0;", 1, 0);
        due("floor", x.rule(2), 0);
        text("sky;", 1, 0);
        text("sky sun grey wet frost sun sun sun sun;", 1, 0);
        due("the plan", x.rule(4), 8);
        text(VALLEY, 9, 0);
    }

    private void textsWithFaults() {
        text("farmer 1 100;", -19, 1);
        text("farmer 1 1,", -20, 1);
        text("Farmer 1 1;", -10, 1);
        text("farmer 1\t1;", -18, 1);
        text("farmer 1 1;000", -21, 1);
        text("farmers 1 1;", -10, 2);
        text("sun 1 1;", -10, 2);
        for (String name : "garmer coatman niller feeler tover adds gloor tky zzz farme skyy".split(" ")) {
            text(name + " 1 1;", -10, 2);
        }
        for (String name : "fun trey met crost su greyy".split(" ")) {
            text("sky " + name + ";", -14, 2);
        }
        for (String other : "` { / : A Z ~ \n \0".split(" ")) {
            text("floor" + other + "1;", -15, 1);
        }
        text("1;", -10, 2);
        text(";", -10, 2);
        text("farmer ;", -17, 2);
        text("farmer x", -17, 2);
        text("farmer", -16, 2);
        text("farmer 1 1  ", -22, 2);
        text("farmer 1 1 1;", -21, 2);
        text("farmer 0 1;", -17, 3);
        text("farmer 6 1;", -17, 3);
        text("farmer 6 1~", -17, 3);
        text("cover 4 0 sun 1 1;", -16, 3);
        text("cover 0 0 sun 1 1;", -18, 3);
        text("cover 0 4 sun 1 1;", -18, 3);
        text("cover 0 1 fog 1 1;", -20, 2);
        text("cover 0 1 2 1 1;", -20, 2);
        text("cover 0 1 farmer 1 1;", -20, 2);
        text("cover 0 1 sun 21 1;", -24, 3);
        text("cover 0 1 sun 1 10;", -26, 3);
        text("odds 11 0 0 0;", -15, 3);
        text("odds 5 6 0 0;", -17, 3);
        text("odds 5 5 0 1;", -21, 3);
        text("odds 3 3 3 0;", -21, 3);
        text("odds 3 3 3;", -20, 2);
        text("floor 5;floor 5;", -18, 4);
        text("sky;sky;", -14, 4);
        text("odds 3 3 3 1;odds", -23, 4);
        text("sky wet 3;", -18, 2);
        text("sky fog;", -14, 2);
        text("sky sun", -17, 2);
        String eight = "sky sun sun sun sun sun sun sun sun ";
        text(eight + "sun;", -46, 5);
        text(eight + "fog;", -46, 5);
        text(eight + "3;", -46, 2);
        text(eight + "~;", -46, 1);
        text("miller 1 1;miller 1 1;miller 1 1;miller 1 1;miller 1 1;", -54, 5);
        String covers = "cover 0 1 sun 1 1;".repeat(5);
        text("farmer 1 1;farmer 1 1;" + covers, 7, 0);
        text("farmer 1 1;farmer 1 1;" + covers + "cover", -122, 5);
        text("farmer 1 1;cover 0 1 sun 1 1; ", -40, 6);
        text("farmer 1 1;cover 1 0 sun 1 1;", -39, 6);
        text("cover 0 1 sun 1 1;floor 100;", -34, 1);
    }

    private void whatATextReplaces() {
        begin("4 text", VALLEY);
        x.week(2);
        x.keep(0);
        x.see(0, 1, 1);
        x.sheet(0, 0, 3);
        x.shift(0, 1);
        due("a text with a fault", Check.tell(x, "farmer 1 1;fog"), -21);
        due("the people stay", x.rule(0), 4);
        due("the week stays", x.rule(3), 1);
        due("the image stays", x.count(1), 1);
        due("what was seen stays", x.count(0), 1);
        x.week(3);
        x.week(3);
        due("something is owed", x.count(5) > 0 ? 1 : 0, 1);
        due("a text", Check.tell(x, "farmer 1 1;farmer 1 1;farmer 1 1;farmer 1 1;"), 4);
        due("covers", x.rule(1), 0);
        due("floor", x.rule(2), 5);
        due("week", x.rule(3), 0);
        due("plan", x.rule(4), 0);
        due("odds of sun", x.odds(0), 3);
        due("owed", x.count(5), 0);
        due("images are gone", x.back(0), STATE);
        due("nothing is seen", x.count(0), 0);
        due("sheets stay", x.count(3), 3);
        x.insure(0, 1, 2, 3, 4);
        x.week(0);
        x.keep(1);
        x.see(0, 1, 9);
        due("a text without lines", x.text(), 0);
        due("tells that nobody is there", x.rule(0), 0);
        due("no covers", x.rule(1), 0);
        due("week", x.rule(3), 0);
        due("no image", x.back(1), STATE);
        due("nothing seen", x.count(0), 0);
        promise = "5 fault";
        due("none", new RainCover().fault(), 0);
        due("behind a good text", x.fault(), 0);
    }

    // ---- 6 to 12

    private void whatThereIs() {
        begin("6 rule", VALLEY);
        int[] rules = {4, 3, 4, 0, 3, 0, BAD};
        for (int i = 0; i < rules.length; i++) {
            due("" + i, x.rule(i), rules[i]);
        }
        due("-1", x.rule(-1), BAD);
        x.floor(7);
        due("below 7", x.rule(5), 12);
        x.week(1);
        due("week", x.rule(3), 1);

        begin("7 one", VALLEY);
        int[][] ones = {{0, 3, 10, 1, 2}, {1, 2, 8, 2, 1}, {2, 1, 4, 4, 0}, {3, 2, 6, 0, 4}};
        for (int p = 0; p < 4; p++) {
            for (int what = 0; what < 5; what++) {
                due(p + ", " + what, x.one(p, what), ones[p][what]);
            }
        }
        x.insure(0, 2, 1, 1, 1);
        due("two covers", x.one(0, 3), 9);
        due("what 5", x.one(0, 5), BAD);
        due("what -1", x.one(0, -1), BAD);
        due("ONE 4", x.one(4, 0), BAD);
        due("ONE -1", x.one(-1, 0), BAD);
        due("no such ONE", Check.told(FARMER).one(1, 0), BAD);

        begin("8 gain", VALLEY);
        int[][] gains = {{109, 103, 94, 91}, {96, 102, 106, 94}, {99, 103, 99, 99}, {94, 100, 108, 92}};
        for (int p = 0; p < 4; p++) {
            for (int w = 0; w < 4; w++) {
                due(p + ", " + w, x.gain(p, w), gains[p][w]);
            }
        }
        due("weather 4", x.gain(0, 4), BAD);
        due("weather -1", x.gain(0, -1), BAD);
        due("ONE 4", x.gain(4, 0), BAD);

        begin("9 cover", VALLEY);
        int[][] covers = {{0, 1, 0, 6, 1}, {1, 0, 2, 9, 2}, {2, 3, 3, 5, 0}};
        for (int c = 0; c < 3; c++) {
            for (int what = 0; what < 5; what++) {
                due(c + ", " + what, x.cover(c, what), covers[c][what]);
            }
        }
        due("no such COVER", x.cover(3, 0), BAD);
        due("-1", x.cover(-1, 0), BAD);
        due("what -1", x.cover(0, -1), BAD);
        due("what 5", x.cover(0, 5), BAD);

        begin("10 odds", "odds 1 2 3 4;");
        for (int w = 0; w < 4; w++) {
            due("" + w, x.odds(w), w + 1);
        }
        due("4", x.odds(4), BAD);
        due("-1", x.odds(-1), BAD);

        begin("11 sky", VALLEY);
        int[] sky = {2, 3, 0, BAD};
        for (int i = 0; i < 4; i++) {
            due("" + i, x.sky(i), sky[i]);
        }
        due("-1", x.sky(-1), BAD);

        begin("12 owed", VALLEY);
        x.week(2);
        x.week(2);
        due("week of frost", x.week(3), 2);
        due("1, 0", x.owed(1, 0), 1);
        due("2, 3", x.owed(2, 3), 4);
        due("3, 2", x.owed(3, 2), 0);
        due("alike", x.owed(1, 1), BAD);
        due("4, 0", x.owed(4, 0), BAD);
        due("0, 4", x.owed(0, 4), BAD);
    }

    // ---- 13 to 20

    private void whatIsChanged() {
        begin("13 alter", VALLEY);
        due("kind", x.alter(0, 0, 3), 0);
        due("kind again", x.alter(0, 0, 0), 3);
        due("kind 4", x.alter(0, 0, 4), BAD);
        due("kind -1", x.alter(0, 0, -1), BAD);
        due("field 1", x.alter(0, 1, 1), 3);
        due("field", x.alter(0, 1, 5), 1);
        due("field 0", x.alter(0, 1, 0), BAD);
        due("field 6", x.alter(0, 1, 6), BAD);
        due("purse", x.alter(0, 2, 999), 10);
        due("purse 1000", x.alter(0, 2, 1000), BAD);
        due("purse -1", x.alter(0, 2, -1), BAD);
        due("purse 0", x.alter(0, 2, 0), 999);
        due("what 3", x.alter(0, 3, 0), BAD);
        due("ONE 4", x.alter(4, 0, 0), BAD);
        due("field is", x.one(0, 1), 5);

        begin("14 sign", VALLEY);
        due("weather", x.sign(1, 2, 3), 2);
        due("weather 4", x.sign(1, 2, 4), BAD);
        due("pays", x.sign(1, 3, 20), 9);
        due("pays 21", x.sign(1, 3, 21), BAD);
        due("pays -1", x.sign(1, 3, -1), BAD);
        due("weather -1", x.sign(1, 2, -1), BAD);
        due("premium", x.sign(1, 4, 9), 2);
        due("premium 10", x.sign(1, 4, 10), BAD);
        due("premium -1", x.sign(1, 4, -1), BAD);
        due("who", x.sign(1, 0, 0), BAD);
        due("whom", x.sign(1, 1, 2), BAD);
        due("what 5", x.sign(1, 5, 0), BAD);
        due("COVER 3", x.sign(3, 2, 0), BAD);
        due("pays is", x.cover(1, 3), 20);

        begin("15 insure", VALLEY);
        due("oneself", x.insure(1, 1, 0, 0, 0), BAD);
        due("ONE 4", x.insure(4, 0, 0, 0, 0), BAD);
        due("to ONE 4", x.insure(0, 4, 0, 0, 0), BAD);
        due("weather 4", x.insure(0, 1, 4, 0, 0), BAD);
        due("pays 21", x.insure(0, 1, 0, 21, 0), BAD);
        due("premium 10", x.insure(0, 1, 0, 0, 10), BAD);
        due("the 4th", x.insure(3, 0, 1, 20, 9), 3);
        due("the 5th", x.insure(3, 0, 1, 0, 0), 4);
        due("the 6th", x.insure(3, 0, 1, 0, 0), FULL);
        due("BAD ahead of FULL", x.insure(3, 3, 1, 0, 0), BAD);
        due("who", x.cover(3, 0), 3);
        due("premium", x.cover(3, 4), 9);

        begin("16 drop", VALLEY);
        due("3", x.drop(3), BAD);
        due("-1", x.drop(-1), BAD);
        due("0", x.drop(0), 2);
        due("the first then", x.cover(0, 3), 9);
        for (int what = 0; what < 5; what++) {
            due("the second then, " + what, x.cover(1, what), new int[] {2, 3, 3, 5, 0}[what]);
        }
        due("1", x.drop(1), 1);
        due("the last", x.drop(0), 0);
        due("none", x.drop(0), BAD);

        begin("17 shift", "");
        due("frost to sun", x.shift(3, 0), 4);
        due("frost is", x.odds(3), 0);
        due("none to go", x.shift(3, 0), STATE);
        due("alike", x.shift(3, 3), BAD);
        due("from 4", x.shift(4, 0), BAD);
        due("to -1", x.shift(0, -1), BAD);

        begin("18 floor", "");
        due("99", x.floor(99), 5);
        due("100", x.floor(100), BAD);
        due("-1", x.floor(-1), BAD);
        due("0", x.floor(0), 99);

        begin("19 plan", VALLEY);
        due("4", x.plan(4), BAD);
        due("-1", x.plan(-1), BAD);
        for (int n = 4; n <= 8; n++) {
            due("the " + n + "th", x.plan(1), n);
        }
        due("the 9th", x.plan(1), FULL);
        due("BAD ahead of FULL", x.plan(4), BAD);
        due("sky(7)", x.sky(7), 1);

        begin("20 cut", VALLEY);
        due("4", x.cut(4), BAD);
        due("-1", x.cut(-1), BAD);
        due("1", x.cut(1), 3);
        due("sky(0)", x.sky(0), 2);
        due("sky(1)", x.sky(1), BAD);
        due("0", x.cut(0), 1);
        due("0 again", x.cut(0), 0);
    }

    // ---- 21 to 23

    private void weeks() {
        begin("21 week", VALLEY);
        due("4", x.week(4), BAD);
        due("-1", x.week(-1), BAD);
        due("wet", x.week(2), 0);
        purses(12, 6, 3, 14);
        due("frost", x.week(3), 2);
        purses(1, 2, 0, 8);
        due("owed 1, 0", x.owed(1, 0), 1);
        due("owed 2, 3", x.owed(2, 3), 3);
        due("sun", x.week(0), 0);
        purses(3, 7, 0, 2);
        due("week", x.rule(3), 3);
        purseBounds();
        lastWeek();

        begin("22 runs", VALLEY);
        int[] runs = {2, 13, 1, 12, 4, BAD};
        for (int i = 0; i < runs.length; i++) {
            due("" + i, x.runs(i), runs[i]);
        }
        due("-1", x.runs(-1), BAD);
        purses(10, 8, 4, 6);
        due("nothing went", x.rule(3), 0);
        x.week(3);
        int owed = x.count(5);
        x.cut(0);
        int[] still = {0, x.rule(5), NONE, x.count(4), owed};
        for (int i = 0; i < still.length; i++) {
            due("no plan, " + i, x.runs(i), still[i]);
        }
        due("something was owed", owed > 0 ? 1 : 0, 1);
        x = Check.told("farmer 1 9;miller 1 5;cover 1 0 wet 3 0;sky sun wet wet wet;");
        due("fails once in a week, the first", x.runs(2), 2);
        due("fails", x.runs(0), 2);

        begin("23 ahead", VALLEY);
        int[] ahead = {3, 7, 0, 2, BAD};
        for (int i = 0; i < ahead.length; i++) {
            due("" + i, x.ahead(i), ahead[i]);
        }
        due("-1", x.ahead(-1), BAD);
    }

    private void purses(int... due) {
        for (int p = 0; p < due.length; p++) {
            due("purse of " + p, x.one(p, 2), due[p]);
        }
    }

    private void purseBounds() {
        x = Check.told("farmer 5 99;miller 1 99;cover 0 1 wet 20 0;");
        x.alter(0, 2, 990);
        x.alter(1, 2, 990);
        x.week(0);
        purses(999, 989);
        x.alter(1, 2, 995);
        x.week(2);
        purses(969, 999);
        due("nothing is owed", x.count(5), 0);
        x = Check.told("farmer 1 0;miller 1 0;cover 0 1 sun 9 2;");
        due("what he got pays the premium", x.week(0), 1);
        purses(2, 1);
        due("owed", x.owed(0, 1), 6);
        due("the premium in each weather", x.week(3), 1);
        purses(0, 0);
        due("owed", x.owed(1, 0), 2);
    }

    private void lastWeek() {
        x = Check.told("farmer 1 9;miller 1 9;cover 1 0 frost 9 9;sky sun;");
        x.sheet(0, 0, 20);
        for (int i = 0; i < 49; i++) {
            x.read(0, 0, 0, 20);
        }
        due("weeks", x.rule(3), 980);
        due("ten", x.read(0, 0, 0, 10), 10);
        due("the 10th is refused", x.read(0, 0, 0, 20), -29);
        due("weeks", x.rule(3), 990);
        due("nine", x.read(0, 0, 0, 9), 9);
        due("week 1000", x.week(0), FULL);
        due("BAD ahead of FULL", x.week(4), BAD);
        due("read", x.read(0, 0, 0, 1), -20);
        due("weeks", x.rule(3), 999);
        due("the plan is thought of still", x.runs(3) > 0 ? 1 : 0, 1);
    }

    // ---- 24 to 29

    private void whateverTheWeather() {
        begin("24 least", FARMER);
        int[][] due = {{9, 0, 9}, {6, 3, 12}, {3, 15, 15}, {0, 63, 18}, {0, 171, 21}};
        for (int n = 0; n <= 4; n++) {
            for (int what = 0; what < 3; what++) {
                due(n + " weeks, " + what, x.least(0, n, what), due[n][what]);
            }
        }
        due("ONE 1", x.least(1, 0, 0), BAD);
        due("5 weeks", x.least(0, 5, 0), BAD);
        due("-1 weeks", x.least(0, -1, 0), BAD);
        due("what 3", x.least(0, 0, 3), BAD);
        due("what -1", x.least(0, 0, -1), BAD);
        x.alter(0, 0, 2);
        due("two are as low: the first", x.least(0, 1, 1), 0);
        x.alter(0, 0, 3);
        due("the last", x.least(0, 1, 1), 3);
        x.alter(0, 0, 0);
        purses(9);

        begin("25 safe", "farmer 1 9;miller 1 20;");
        int[] safe = {3, 3, 2, 2, 2, BAD};
        for (int n = 0; n < safe.length; n++) {
            due(n + " weeks", x.safe(n), safe[n]);
        }
        due("-1", x.safe(-1), BAD);
        x.floor(6);
        due("just the floor", x.safe(1), 3);
        x.floor(7);
        due("below it", x.safe(1), 2);
        x.floor(10);
        due("now", x.safe(0), 2);
        x = Check.told("farmer 1 0;farmer 1 30;boatman 1 0;eeler 1 30;");
        due("some", x.safe(4), 10);

        begin("26 fair", "farmer 1 9;miller 1 20;cover 0 1 sun 7 0;cover 0 1 wet 10 0;cover 0 1 frost 9 0;cover 1 0 frost 0 0;");
        int[] fair = {3, 3, 1, 0, BAD};
        for (int c = 0; c < fair.length; c++) {
            due("" + c, x.fair(c), fair[c]);
        }
        due("-1", x.fair(-1), BAD);
        x = Check.told("farmer 1 9;miller 1 20;odds 0 0 10 0;cover 0 1 wet 20 0;cover 0 1 sun 20 0;");
        due("always", x.fair(0), 20);
        due("never", x.fair(1), 0);

        theCoverMore();
        theCoverDropped();

        begin("29 dear", VALLEY);
        due("which", x.dear(0), 2);
        due("how much", x.dear(1), 12);
        due("2", x.dear(2), BAD);
        due("-1", x.dear(-1), BAD);
        x.sign(0, 3, 9);
        due("of several the first", x.dear(0), 0);
        due("how much", x.dear(1), 12);
        x.insure(3, 2, 1, 20, 0);
        due("grey", x.dear(0), 1);
        due("how much", x.dear(1), 23);
    }

    private void theCoverMore() {
        begin("27 help", "farmer 1 11;miller 1 20;");
        due("now", x.safe(3), 2);
        due("of 3", x.help(3, 0), 103);
        due("how many", x.help(3, 1), 2);
        due("of 1", x.help(1, 0), 103);
        due("of 20", x.help(20, 0), NONE);
        due("of 20, how many", x.help(20, 1), NONE);
        due("of 0", x.help(0, 0), BAD);
        due("of 21", x.help(21, 0), BAD);
        due("what 2", x.help(3, 2), BAD);
        due("what -1", x.help(3, -1), BAD);
        due("no cover came", x.rule(1), 0);
        x.insure(1, 0, 3, 3, 0);
        due("all are safe", x.help(3, 0), NONE);
        x = Check.told("farmer 1 11;miller 1 20;" + "cover 0 1 sun 0 0;".repeat(5));
        due("full", x.help(3, 0), FULL);
        due("BAD ahead of FULL", x.help(0, 0), BAD);
        x = Check.told("miller 1 30;farmer 1 11;miller 1 20;");
        due("the least", x.help(2, 0), 13);
        due("nobody", new RainCover().help(1, 0), NONE);
    }

    private void theCoverDropped() {
        begin("28 spare", "farmer 1 11;miller 1 20;cover 1 0 frost 3 0;cover 1 0 frost 20 0;");
        due("which", x.spare(0), 1);
        due("how many", x.spare(1), 2);
        due("2", x.spare(2), BAD);
        due("-1", x.spare(-1), BAD);
        due("covers", x.rule(1), 2);
        x.drop(1);
        due("none", x.spare(0), NONE);
        due("none, how many", x.spare(1), NONE);
        x = Check.told("farmer 1 99;miller 1 9;cover 1 0 sun 9 0;cover 1 0 sun 9 0;");
        due("by neither alone", x.spare(0), NONE);
        x = Check.told("farmer 1 99;miller 1 9;miller 1 9;cover 1 0 sun 9 0;cover 2 0 sun 9 0;");
        due("of several the first", x.spare(0), 0);
        due("how many", x.spare(1), 2);
    }

    // ---- 30 to 32, 39

    private void byOdds() {
        begin("30 mean", FARMER);
        long[][] mean = {{9, 1}, {93, 10}, {48, 5}};
        for (int n = 0; n < 3; n++) {
            due(n + " weeks, above", x.mean(0, n, 0), mean[n][0]);
            due(n + " weeks, below", x.mean(0, n, 1), mean[n][1]);
        }
        due("ONE 1", x.mean(1, 0, 0), BAD);
        due("5 weeks", x.mean(0, 5, 0), BAD);
        due("-1 weeks", x.mean(0, -1, 0), BAD);
        due("what 2", x.mean(0, 0, 2), BAD);
        due("what -1", x.mean(0, 0, -1), BAD);
        x = Check.told("farmer 1 9;odds 0 0 0 10;");
        due("0", x.mean(0, 3, 0), 0);
        due("by 1", x.mean(0, 3, 1), 1);
        due("0", x.mean(0, 4, 0), 0);

        begin("31 luck", "farmer 1 9;floor 7;");
        long[][] luck = {{1, 1}, {9, 10}, {21, 25}};
        for (int n = 0; n < 3; n++) {
            due(n + " weeks, above", x.luck(0, n, 0), luck[n][0]);
            due(n + " weeks, below", x.luck(0, n, 1), luck[n][1]);
        }
        x.floor(99);
        due("0", x.luck(0, 4, 0), 0);
        due("by 1", x.luck(0, 4, 1), 1);
        due("ONE -1", x.luck(-1, 0, 0), BAD);
        due("5 weeks", x.luck(0, 5, 0), BAD);
        due("what 2", x.luck(0, 0, 2), BAD);
        due("what -1", x.luck(0, 0, -1), BAD);

        begin("32 forecast", "farmer 1 9;eeler 1 9;miller 1 9;farmer 5 9;");
        long[][] worth = {{9, 10}, {6, 5}, {7, 10}, {9, 2}};
        for (int p = 0; p < 4; p++) {
            due(p + ", above", x.forecast(p, 0), worth[p][0]);
            due(p + ", below", x.forecast(p, 1), worth[p][1]);
        }
        due("ONE 4", x.forecast(4, 0), BAD);
        due("what 2", x.forecast(0, 2), BAD);
        due("what -1", x.forecast(0, -1), BAD);
        x = Check.told("farmer 1 9;odds 10 0 0 0;");
        due("0", x.forecast(0, 0), 0);
        due("by 1", x.forecast(0, 1), 1);

        begin("39 drift", FARMER);
        int[] purses = {7, 5, 6, 7, 10, 8, 11, 8, 11, 9};
        for (int n = 1; n <= 10; n++) {
            due("1, " + n, x.drift(1, n, 1), purses[n - 1]);
        }
        due("seed 0", x.drift(0, 1, 1), 12);
        due("0 weeks", x.drift(1, 0, 1), BAD);
        due("61 weeks", x.drift(1, 61, 1), BAD);
        due("what 2", x.drift(1, 1, 2), BAD);
        due("what -1", x.drift(1, 1, -1), BAD);
        x = Check.told("farmer 1 9;odds 0 9 1 0;");
        due("by odds", x.drift(1, 3, 1), 12);
        x = Check.told("farmer 1 9;odds 0 8 1 1;");
        due("by other odds", x.drift(1, 3, 1), 6);
        x = Check.told(FARMER);
        due("nothing went", x.rule(3), 0);
        purses(9);
        x = Check.told("farmer 1 0;miller 1 0;cover 0 1 wet 5 0;");
        due("fails", x.drift(1, 2, 0), 2);
        due("60 weeks", x.drift(-1, 60, 0) >= 0 ? 1 : 0, 1);
    }

    // ---- 33, 34

    private void debts() {
        String poor = "miller 1 0;miller 1 0;miller 1 0;miller 1 0;";
        begin("33 pays", poor);
        due("none", x.pays(), 0);
        owing(poor + "cover 0 1 frost 5 0;cover 1 2 frost 5 0;", 1);
        owing(poor + "cover 0 1 frost 5 0;cover 2 3 frost 5 0;", 2);
        owing(poor + "cover 0 1 frost 3 0;cover 0 2 frost 4 0;", 2);
        owing(poor + "cover 0 1 frost 5 0;cover 0 2 frost 3 0;cover 3 2 frost 1 0;", 3);
        owing(poor + "cover 0 1 frost 3 0;cover 0 3 frost 2 0;cover 2 3 frost 3 0;", 2);
        owing(poor + "cover 0 1 frost 5 0;cover 1 2 frost 5 0;cover 2 0 frost 5 0;", 0);

        promise = "34 forgive";
        due("all", x.forgive(), 15);
        due("none is owed", x.owed(0, 1), 0);
        due("again", x.forgive(), 0);
        due("week stays", x.rule(3), 1);
    }

    private void owing(String text, int payments) {
        x = Check.told(text);
        x.week(3);
        due(text, x.pays(), payments);
    }

    // ---- 35 to 38

    private void weathersFromPurses() {
        begin("35 see", FARMER);
        due("ONE 1", x.see(1, 1, 0), BAD);
        due("0 weeks", x.see(0, 0, 0), BAD);
        due("5 weeks", x.see(0, 5, 0), BAD);
        due("-1", x.see(0, 1, -1), BAD);
        due("256", x.see(0, 1, 256), BAD);
        for (int i = 1; i <= 6; i++) {
            due("the " + i + "th", x.see(0, 4, 255), i);
        }
        due("the 7th", x.see(0, 4, 255), FULL);
        due("BAD ahead of FULL", x.see(0, 4, 256), BAD);

        promise = "36 forget";
        due("7", x.forget(7), BAD);
        due("-1", x.forget(-1), BAD);
        due("2", x.forget(2), 6);
        due("count(0)", x.count(0), 2);
        due("0", x.forget(0), 2);
        due("the first stay", x.see(0, 1, 6) + x.see(0, 1, 7) + x.forget(1) + x.fits(10), 1 + 2 + 2 + 8);

        begin("37 fits", FARMER);
        fit(256, 0, 15, 15);
        x.see(0, 1, 6);
        fit(64, 192, 8, 15);
        x.see(0, 2, 4);
        fit(16, 224, 8, 4);
        due("week 3", x.fits(13), 15);
        x.see(0, 1, 7);
        fit(0, NONE, 0, 0);
        for (int what : new int[] {-1, 2, 9, 14}) {
            due("" + what, x.fits(what), BAD);
        }
        x.forget(1);
        x.week(0);
        fit(0, NONE, 0, 0);
        whereToLook();
    }

    private void fit(int many, int first, int inWeek0, int inWeek1) {
        due("how many", x.fits(0), many);
        due("the first", x.fits(1), first);
        due("week 0", x.fits(10), inWeek0);
        due("week 1", x.fits(11), inWeek1);
    }

    private void whereToLook() {
        begin("38 look", "farmer 1 9;miller 1 20;");
        seeWet(0);
        due("where", x.look(0), 4);
        due("how many", x.look(1), 2);
        due("2", x.look(2), BAD);
        due("-1", x.look(-1), BAD);
        x.see(0, 4, 4);
        due("one is left", x.fits(0), 1);
        due("at none", x.look(0), NONE);
        due("at none, how many", x.look(1), NONE);
        x.forget(0);
        x.see(0, 1, 200);
        due("none fits", x.look(0), NONE);
        x = Check.told("miller 1 20;boatman 1 20;farmer 1 9;boatman 2 20;");
        seeWet(2);
        due("of several the least", x.look(0), 14);
        due("how many", x.look(1), 1);
        due("nobody", new RainCover().look(0), NONE);
        x = Check.told(FARMER);
        x.alter(0, 2, 999);
        due("a full purse", x.look(0), 4);
        due("how many", x.look(1), 65);
    }

    /** The farmer's purse tells frost, wet, frost: the fourth week is open. */
    private void seeWet(int farmer) {
        x.see(farmer, 1, 6);
        x.see(farmer, 2, 4);
        x.see(farmer, 3, 1);
        due("four are left", x.fits(0), 4);
    }

    // ---- 40 to 46

    private void imagesAndSheets() {
        begin("40 keep", VALLEY);
        due("2", x.keep(2), BAD);
        due("-1", x.keep(-1), BAD);
        due("1", x.keep(1), 0);
        due("1 again", x.keep(1), 1);
        due("0", x.keep(0), 0);
        begin("41 back", VALLEY);
        due("2", x.back(2), BAD);
        due("-1", x.back(-1), BAD);
        due("none", x.back(0), STATE);
        x.week(3);
        x.week(3);
        int owed = x.count(5);
        x.keep(0);
        x.week(0);
        x.alter(0, 0, 2);
        x.alter(0, 1, 5);
        x.sign(0, 3, 20);
        x.drop(2);
        x.floor(99);
        x.shift(0, 3);
        x.plan(3);
        x.forgive();
        x.see(0, 1, 0);
        due("0", x.back(0), 2);
        due("week", x.rule(3), 2);
        due("kind", x.one(0, 0), 0);
        due("field", x.one(0, 1), 3);
        due("covers", x.rule(1), 3);
        due("pays", x.cover(0, 3), 6);
        due("pays of the last", x.cover(2, 3), 5);
        due("floor", x.rule(2), 4);
        due("odds", x.odds(0), 3);
        due("plan", x.rule(4), 3);
        due("owed", x.count(5), owed);
        due("seen stays", x.count(0), 1);
        x.week(0);
        due("the image stays", x.back(0), 2);
        x.week(0);
        x.keep(1);
        x.week(0);
        due("the other image", x.back(1), 3);
        due("the first again", x.back(0), 2);
        sheets();
        reading();

        begin("46 count", VALLEY);
        x.see(0, 1, 1);
        x.keep(0);
        x.keep(1);
        x.feed(1);
        x.sheet(0, 2, 0);
        int[] counts = {1, 2, 1, 0, 28, 0, BAD};
        for (int i = 0; i < counts.length; i++) {
            due("" + i, x.count(i), counts[i]);
        }
        due("-1", x.count(-1), BAD);
        x.sheet(0, 2, 40);
        due("40 cells", x.count(3), 40);
    }

    private void sheets() {
        begin("42 sheet", "");
        due("-1", x.sheet(-1, 0, 1), BAD);
        due("4", x.sheet(4, 0, 1), BAD);
        due("lane 3", x.sheet(0, 3, 1), BAD);
        due("lane -1", x.sheet(0, -1, 1), BAD);
        due("41 cells", x.sheet(0, 0, 41), BAD);
        due("-1 cells", x.sheet(0, 0, -1), -14);
        due("BAD ahead of it", x.sheet(4, 0, -1), BAD);
        due("nothing still", x.count(3), NONE);
        due("40 cells", x.sheet(0, 0, 40), 1);
        due("-1 cells", x.sheet(0, 1, -1), -14);
        due("40 still", x.count(3), 40);
        due("lay", x.lay(0, 39, 4), 1);
        due("no cells", x.sheet(0, 1, 0), 1);
        due("count(3)", x.count(3), 0);
        due("a new row", x.sheet(0, 0, 40), 1);
        due("of cells 0", x.read(0, 0, 39, 1), 1);
        x.lay(0, 0, 4);
        x.sheet(0, 0, 1);
        due("the first too", x.read(0, 0, 0, 1), 1);

        begin("43 lay", FARMER);
        due("4", x.lay(4, 0, 0), BAD);
        due("-1", x.lay(-1, 0, 0), BAD);
        due("nothing", x.lay(0, 0, 0), -11);
        for (int lane = 0; lane < 3; lane++) {
            x.sheet(lane, lane, 3);
            due("cell -1", x.lay(lane, -1, 0), -12);
            due("cell 3", x.lay(lane, 3, 0), -12);
            x.lay(lane, 0, 256 + 1);
            x.lay(lane, 1, 65536 + 2);
            x.lay(lane, 2, 128 + 3);
        }
        due("bytes: 257 is 1", x.read(0, 0, 0, 1), 1);
        due("bytes: 65538 is 2", x.read(0, 0, 1, 1), 1);
        due("bytes: 131 is -125", x.read(0, 0, 2, 1), -20);
        due("shorts: 257", x.read(1, 1, 0, 1), -20);
        due("shorts: 65538 is 2", x.read(1, 1, 1, 1), 1);
        due("ints: 65538", x.read(2, 2, 1, 1), -20);
        purses(9 + 1 - 2 - 2);
    }

    private void reading() {
        begin("44 read", FARMER);
        due("-1", x.read(-1, 0, 0, 0), BAD);
        due("4", x.read(4, 0, 0, 0), BAD);
        due("lane 3", x.read(0, 3, 0, 0), BAD);
        due("lane -1", x.read(0, -1, 0, 0), BAD);
        due("21", x.read(0, 0, 0, 21), BAD);
        due("-1", x.read(0, 0, 0, -1), BAD);
        due("nothing", x.read(0, 0, 0, 1), 0);
        due("NULL", x.torn(), 1);
        due("none of nothing", x.read(0, 0, 0, 0), 0);
        due("no fault", x.torn(), 0);
        x.sheet(0, 1, 4);
        x.lay(0, 1, 1);
        x.lay(0, 2, 3);
        due("another lane", x.read(0, 0, 0, 1), 0);
        due("CAST", x.torn(), 3);
        due("a lane ahead of the place", x.read(0, 2, 9, 1), 0);
        due("CAST", x.torn(), 3);
        due("all and more", x.read(0, 1, 1, 20), 3);
        due("INDEX", x.torn(), 2);
        purses(9 + 1 - 3 + 3);
        due("week", x.rule(3), 3);
        due("far behind", x.read(0, 1, Integer.MAX_VALUE, 20), 0);
        due("far ahead", x.read(0, 1, Integer.MIN_VALUE, 20), 0);
        due("INDEX", x.torn(), 2);
        x.lay(0, 3, -1);
        promise = "45 torn";
        due("the 4th is refused", x.read(0, 1, 0, 4), -23);
        due("none went", x.rule(3), 3);
        due("it did not come to an end", x.torn(), 2);
        due("nor did this", x.read(0, 1, 0, 21), BAD);
        due("the latest that did", x.torn(), 2);
        due("three", x.read(0, 1, 0, 3), 3);
        due("no fault", x.torn(), 0);
        due("a new object", new RainCover().torn(), 0);
    }
}
