import java.io.IOException;

/** The tape, its tokens, its lines and its faults, with the place of each; promises 2 to 5. */
public final class TextTest extends Sentences {
    private static final String FOUR = "farmer 1 1;boatman 2 2;miller 3 3;eeler 4 4;";
    private static final String EIGHT = "sky sun grey wet frost frost wet grey sun";
    private static final String[] KINDS = {"farmer", "boatman", "miller", "eeler"};

    private TextTest() throws IOException {
        super("TextTest");
    }

    public static void main(String[] args) throws IOException {
        TextTest t = new TextTest();
        t.theTape();
        t.tokens();
        t.numbersThatAreTooLong();
        t.linesTokenByToken();
        t.skyTokenByToken();
        t.boundsOfNumbers();
        t.allOdds();
        t.toldTwice();
        t.tooMany();
        t.strangers();
        t.theFirstFaultMet();
        t.whatATextTells();
        t.whatAFaultLeaves();
        t.check.close();
    }

    private void taken(String text, int lines) {
        x = new RainCover();
        due("text of '" + text + "'", Check.tell(x, text), lines);
        due("fault of '" + text + "'", x.fault(), 0);
    }

    private void faulty(String text, int fault, int place) {
        x = new RainCover();
        due("text of '" + text + "'", Check.tell(x, text), -10 - place);
        due("fault of '" + text + "'", x.fault(), fault);
        due("nobody behind '" + text + "'", x.rule(0) + x.rule(1), 0);
        due("the tape behind '" + text + "'", x.count(2), 0);
    }

    // ---- the tape

    private void theTape() {
        term("THE TAPE has 160 bytes, places from 0.");
        taken(" ".repeat(152) + "floor 9;", 1);
        due("floor", x.rule(2), 9);
        taken("floor 8;" + " ".repeat(152), 1);
        faulty("~" + " ".repeat(159), 1, 0);
        faulty(" ".repeat(159) + "~", 1, 159);
        faulty(" ".repeat(159) + ";", 2, 159);
        faulty(" ".repeat(155) + "floor", 2, 160);
        faulty("floor" + " ".repeat(155), 2, 160);
        taken(" ".repeat(160), 0);
        taken("sky;" + "cover 0 1 sun 1 1;".repeat(5) + "farmer 1 1;".repeat(4) + "floor 5;" + " ".repeat(14), 11);

        promise(2, "A byte (0 to 127) comes behind THE TAPE: how many it has.");
        for (int c = 0; c < 128; c++) {
            due("byte " + c, x.feed(c), c + 1);
        }
        due("byte -1", x.feed(-1), BAD);
        due("byte 128", x.feed(128), BAD);
        due("byte 256", x.feed(256), BAD);
        due("bytes", x.count(2), 128);

        promise(2, "FULL: more than 160.");
        feedAll(" ".repeat(151) + "floor 9;");
        due("the 160th", x.feed(' '), 160);
        due("the 161st", x.feed(';'), FULL);
        due("the 161st again", x.feed(';'), FULL);
        due("BAD is ahead of FULL", x.feed(128), BAD);
        due("bytes", x.count(2), 160);
        due("the 161st was not taken", x.text(), 1);
        due("there is room again", x.feed(';'), 1);

        promise(3, "THE TAPE keeps its first n bytes: how many it had.");
        due("0 of an empty one", x.end(0), 0);
        due("1 of an empty one", x.end(1), BAD);
        feedAll("floor 7;floor 8;" + " ".repeat(144));
        due("161 of 160", x.end(161), BAD);
        due("160 of 160", x.end(160), 160);
        due("159", x.end(159), 160);
        due("160 of 159", x.end(160), BAD);
        due("-1", x.end(-1), BAD);
        due("8", x.end(8), 159);
        due("it has", x.count(2), 8);
        due("a byte comes behind these", x.feed(' '), 9);
        due("the first ones stay", x.text(), 1);
        due("floor", x.rule(2), 7);
        feedAll("floor 9;");
        due("0", x.end(0), 8);
        due("nothing stays", x.text(), 0);
        due("floor", x.rule(2), 5);

        promise(4, "THE TAPE (empty then) tells all: how many lines");
        due("an empty tape", x.text(), 0);
        feedAll("floor 9;");
        due("a line", x.text(), 1);
        due("empty then", x.count(2), 0);
        due("the next text is empty", x.text(), 0);
        feedAll("floor");
        due("a fault", x.text(), -15);
        due("empty then too", x.count(2), 0);
        due("the next text is empty", x.text(), 0);

        promise(5, "The FAULT of the latest text(); 0.");
        due("ahead of any text", x.fault(), 0);
        feedAll("~");
        due("before it is told", x.fault(), 0);
        x.text();
        due("1", x.fault(), 1);
        feedAll(";");
        due("of the latest text", x.fault(), 1);
        x.text();
        due("2", x.fault(), 2);
        x.text();
        due("none", x.fault(), 0);
    }

    // ---- tokens

    private void tokens() {
        term("TOKENS, each as long as may be, blanks (32) between: NAMES (a .. z), NUMBERS (1 or 2 figures), one ; .");
        for (int c = 0; c < 128; c++) {
            String alone = String.valueOf((char) c);
            boolean letter = c >= 'a' && c <= 'z';
            boolean figure = c >= '0' && c <= '9';
            boolean begins = letter || figure || c == ';';
            if (c == ' ') {
                taken(alone, 0);
                taken("floor" + alone + "7;", 1);
                taken("floor 7" + alone + ";", 1);
            } else {
                faulty(alone, begins ? 2 : 1, 0);
            }
            if (letter) {
                faulty("floor" + alone + "7;", 2, 0);
            } else if (figure) {
                taken("floor" + alone + "7;", 1);
                due("two figures", x.rule(2), 10 * (c - '0') + 7);
                taken("floor" + alone + ";", 1);
                due("one figure", x.rule(2), c - '0');
            } else if (c != ' ') {
                faulty("floor" + alone + "7;", begins ? 2 : 1, 5);
            }
        }
        taken("floor7;", 1);
        taken("  floor  7  ;  ", 1);
        taken("cover0 1sun2 3;farmer4 5;farmer5 4;", 3);
        faulty("skysun;", 2, 0);
        faulty("sky sungrey;", 2, 4);
        faulty("fl oor 7;", 2, 0);
        faulty("floor 7;;", 2, 8);
        faulty("farmer 12;", 3, 7);
        faulty("farmer 1 2", 2, 10);
        taken("floor 00;", 1);
        due("00", x.rule(2), 0);
        taken("farmer 05 09;", 1);
        due("05", x.one(0, 1), 5);
        due("09", x.one(0, 2), 9);
    }

    private void numbersThatAreTooLong() {
        term("1 no TOKEN, a NUMBER that is too long (its first byte).");
        taken("floor 99;", 1);
        faulty("floor 100;", 1, 6);
        faulty("floor 000;", 1, 6);
        faulty("floor 007;", 1, 6);
        // To the machine's int this would be 7 again.
        faulty("floor 4294967303;", 1, 6);
        faulty("floor " + "0".repeat(153) + "7", 1, 6);
        faulty("123;", 1, 0);
        faulty("floor 7;000", 1, 8);
    }

    // ---- lines

    /** Each token of each line in turn is cut off, or another one stands in its place. */
    private void linesTokenByToken() {
        term("2 a TOKEN that can not stand there (a NAME that begins no line, is no W; or the end: the length).");
        String[] lines = {"farmer 1 0 ;", "boatman 5 99 ;", "miller 2 7 ;", "eeler 3 10 ;", "cover 0 1 sun 20 9 ;",
            "cover 3 2 frost 0 0 ;", "odds 1 2 3 4 ;", "floor 7 ;"};
        for (String ahead : new String[] {"", FOUR.substring(0, 11), "sky;"}) {
            for (String line : lines) {
                tokenByToken(ahead, line.split(" "));
            }
        }
        taken("farmer 1 0 ; boatman 5 99 ; miller 2 7 ; eeler 3 10 ; cover 0 1 sun 20 9 ; cover 3 2 frost 0 0 ; sky ;", 7);
        taken("odds 1 2 3 4 ; floor 7 ; sky sun ;", 3);
        for (String name : "farm farmers sun grey wet frost covers od odd floors s skye a z".split(" ")) {
            faulty(name, 2, 0);
            faulty("floor 7;" + name + " 1 1;", 2, 8);
        }
        for (String name : "su sunn gre greys we wets fros frosts fog farmer sky floor odds cover a z".split(" ")) {
            faulty("cover 0 1 " + name + " 1 1;", 2, 10);
            faulty("sky " + name + ";", 2, 4);
            faulty("sky sun " + name + ";", 2, 8);
        }
    }

    private void tokenByToken(String ahead, String[] tokens) {
        String before = ahead;
        for (int i = 0; i < tokens.length; i++) {
            if (i > 0) {
                faulty(before, 2, before.length());
                faulty(before + "   ", 2, before.length() + 3);
            }
            int place = before.length() + 1;
            faulty(before + " fog", 2, place);
            faulty(before + " ~", 1, place);
            faulty(before + " 123", 1, place);
            if (!tokens[i].equals(";")) {
                faulty(before + " ;", 2, place);
            }
            if (!Character.isDigit(tokens[i].charAt(0))) {
                faulty(before + " 1", 2, place);
            }
            before = before + " " + tokens[i];
        }
    }

    private void skyTokenByToken() {
        term("sky { W } ;");
        taken("sky;", 1);
        due("none", x.rule(4), 0);
        String before = "sky";
        for (int many = 0; many <= 8; many++) {
            taken(before + ";", 1);
            due("many", x.rule(4), many);
            faulty(before, 2, before.length());
            faulty(before + "  ", 2, before.length() + 2);
            faulty(before + " 1;", 2, before.length() + 1);
            faulty(before + " ~;", 1, before.length() + 1);
            faulty(before + " 123", 1, before.length() + 1);
            faulty(before + " fog;", many < 8 ? 2 : 5, before.length() + 1);
            before = before + " " + (many % 2 == 0 ? "wet" : "frost");
        }
    }

    // ---- numbers

    private void boundsOfNumbers() {
        term("3 a NUMBER out of its bounds");
        for (String kind : KINDS) {
            bounds(kind + " ", " 1;", 1, 5, true);
            bounds(kind + " 1 ", ";", 0, 99, true);
        }
        bounds(FOUR + "cover ", " 0 sun 1 1;", 1, 3, false);
        bounds(FOUR + "cover ", " 3 sun 1 1;", 0, 2, false);
        bounds(FOUR + "cover 0 ", " sun 1 1;", 1, 3, true);
        bounds(FOUR + "cover 3 ", " sun 1 1;", 0, 2, true);
        bounds(FOUR + "cover 0 1 sun ", " 1;", 0, 20, true);
        bounds(FOUR + "cover 0 1 sun 1 ", ";", 0, 9, true);
        bounds("floor ", ";", 0, 99, true);
        faulty("cover 4 0 sun 1 1;", 3, 6);
        faulty("cover 0 4 sun 1 1;", 3, 8);
        faulty("cover 99 0 sun 1 1;", 3, 6);

        term("(cover: himself;");
        for (int p = 0; p < 4; p++) {
            faulty(FOUR + "cover " + p + " " + p + " sun 1 1;", 3, FOUR.length() + 8);
        }

        term("odds: more than are left of 10, the last one: not all that are).");
        bounds("odds ", " 0 0 0;", 10, 10, false);
        faulty("odds 11 0 0 0;", 3, 5);
        bounds("odds 4 ", " 0 0;", 6, 6, false);
        faulty("odds 4 7", 3, 7);
        bounds("odds 4 3 ", " 0;", 3, 3, false);
        faulty("odds 4 3 4", 3, 9);
        bounds("odds 4 3 2 ", ";", 1, 1, false);
        faulty("odds 4 3 2 0;", 3, 11);
        faulty("odds 4 3 2 2;", 3, 11);
        faulty("odds 10 0 0 1;", 3, 12);
        faulty("odds 0 0 0 9;", 3, 11);
        faulty("odds 0 0 0 11;", 3, 11);
    }

    /** A number between two pieces of a text: each of one or two figures. */
    private void bounds(String before, String behind, int from, int to, boolean placeTold) {
        for (int v = 0; v <= 99; v++) {
            x = new RainCover();
            int answer = Check.tell(x, before + v + behind);
            boolean within = v >= from && v <= to;
            due("'" + before + v + behind + "' is taken", answer > 0 ? 1 : 0, within ? 1 : 0);
            due("fault of '" + before + v + behind + "'", x.fault(), within ? 0 : 3);
            // What is told behind it may be what is wrong then.
            if (placeTold && !within) {
                due("place in '" + before + v + behind + "'", answer, -10 - before.length());
            }
        }
    }

    /** Every four numbers up to 11. */
    private void allOdds() {
        term("odds: ODDS of sun, grey, wet, frost.");
        for (int code = 0; code < 12 * 12 * 12 * 12; code++) {
            int[] tenths = {code / 1728, code / 144 % 12, code / 12 % 12, code % 12};
            String text = "odds";
            int left = 10;
            int place = -1;
            for (int w = 0; w < 4; w++) {
                boolean out = tenths[w] > left || w == 3 && tenths[w] != left;
                left -= tenths[w];
                place = place < 0 && out ? text.length() + 1 : place;
                text = text + " " + tenths[w];
            }
            x = new RainCover();
            due(text, Check.tell(x, text + ";"), place < 0 ? 1 : -10 - place);
            due("fault of " + text, x.fault(), place < 0 ? 0 : 3);
            for (int w = 0; w < 4 && place < 0; w++) {
                due(text + ", " + w, x.odds(w), tenths[w]);
            }
        }
    }

    // ---- what is told too often

    private void toldTwice() {
        term("4 odds, floor, sky for the second time (its NAME).");
        for (String line : new String[] {"odds 3 3 3 1;", "floor 7;", "sky wet;", "sky;"}) {
            String name = line.split("[ ;]")[0];
            faulty(line + line, 4, line.length());
            faulty(line + " " + name, 4, line.length() + 1);
            faulty(line + name + "~", 4, line.length());
            faulty(line + FOUR + line, 4, line.length() + FOUR.length());
            faulty(line + name + "s", 2, line.length());
            x = new RainCover();
            due(line, Check.tell(x, line), 1);
            due(line + " in the next text", Check.tell(x, line), 1);
            due(line + " with a fault", Check.tell(x, line + "~"), -10 - line.length());
            due(line + " behind a fault", Check.tell(x, line), 1);
        }
        taken("odds 3 3 3 1;floor 7;sky;", 3);
        taken("sky;floor 7;odds 3 3 3 1;", 3);
        taken("farmer 1 1;farmer 1 1;cover 0 1 sun 1 1;cover 0 1 sun 1 1;", 4);
    }

    private void tooMany() {
        term("5 the 5th ONE, the 6th cover (its NAME);");
        taken(FOUR, 4);
        due("four", x.rule(0), 4);
        for (String kind : KINDS) {
            faulty(FOUR + kind + " 1 1;", 5, FOUR.length());
            faulty(FOUR + " " + kind, 5, FOUR.length() + 1);
            faulty(FOUR + kind + " 9 9~", 5, FOUR.length());
            faulty(FOUR + "sky;" + kind, 5, FOUR.length() + 4);
        }
        String five = "farmer 1 1;farmer 1 1;" + "cover 0 1 sun 1 1;".repeat(5);
        taken(five, 7);
        due("five", x.rule(1), 5);
        faulty(five + "cover 0 1 sun 1 1;", 5, five.length());
        faulty(five + " cover", 5, five.length() + 1);
        faulty(five + "cover 9 9~", 5, five.length());
        faulty("cover 0 1 sun 1 1;".repeat(6), 5, 90);

        term("a 9th NAME behind sky (it, whether it is a W or not).");
        taken(EIGHT + ";", 1);
        int[] sky = {0, 1, 2, 3, 3, 2, 1, 0, BAD};
        for (int i = 0; i < sky.length; i++) {
            due("sky(" + i + ")", x.sky(i), sky[i]);
        }
        for (String name : new String[] {"sun", "frost", "fog", "farmer", "sky", "z"}) {
            faulty(EIGHT + " " + name + ";", 5, EIGHT.length() + 1);
            faulty(EIGHT + " " + name, 5, EIGHT.length() + 1);
        }
    }

    private void strangers() {
        term("Behind all (the length): 6 a ONE that there is not.");
        faulty("cover 0 1 sun 1 1;", 6, 18);
        faulty("cover 0 1 sun 1 1;  ", 6, 20);
        faulty("farmer 1 1;cover 0 1 sun 1 1;", 6, 29);
        faulty("farmer 1 1;cover 1 0 sun 1 1;", 6, 29);
        faulty("cover 1 0 sun 1 1;farmer 1 1;sky;", 6, 33);
        taken("farmer 1 1;cover 1 0 sun 1 1;farmer 1 1;", 3);
        for (int people = 0; people < 4; people++) {
            String some = "farmer 1 1;".repeat(people);
            faulty(some + "cover 3 0 sun 1 1;", 6, some.length() + 18);
            faulty(some + "cover 0 3 sun 1 1;", 6, some.length() + 18);
            faulty("cover 2 3 sun 1 1;" + some, 6, some.length() + 18);
        }
        String three = FOUR.substring(0, FOUR.indexOf("eeler"));
        taken(three + "cover 2 0 sun 1 1;cover 0 2 sun 1 1;", 5);
        faulty(three + "cover 3 0 sun 1 1;", 6, three.length() + 18);
        faulty(three + "cover 0 3 sun 1 1;", 6, three.length() + 18);
        faulty(three + "cover 0 1 sun 1 1;cover 0 3 sun 1 1;cover 0 1 sun 1 1;", 6, three.length() + 54);
        taken("cover 3 0 sun 1 1;cover 0 3 sun 1 1;" + FOUR, 6);
    }

    private void theFirstFaultMet() {
        term("FAULTS, the first met as it is read (a TOKEN is read when the one before has been taken)");
        faulty("farmer 6~", 3, 7);
        faulty("farmer 6", 3, 7);
        faulty("farmer 1 1~6", 1, 10);
        faulty("cover 0 0~", 3, 8);
        faulty("cover 0 1 fog~", 2, 10);
        faulty("cover 0 1 sun 21~", 3, 14);
        faulty("cover 0 1 sun 20 10~", 3, 17);
        faulty("odds 5 6~", 3, 7);
        faulty("odds 5 5 0 1~", 3, 11);
        faulty("floor fog~", 2, 6);
        faulty("fog~", 2, 0);
        faulty("sky fog~", 2, 4);
        faulty("floor 7;floor~", 4, 8);
        faulty("cover 0 1 sun 1 1;~", 1, 18);
        faulty("cover 0 1 sun 1 1;fog", 2, 18);
        faulty("cover 0 1 sun 1 1;cover 0 0 sun 1 1;", 3, 26);
        faulty(FOUR + "farmer 0 0 0~", 5, FOUR.length());
    }

    // ---- what a text does

    /** People, covers, odds, floor, plan, week, debts, images, what was seen: all of them other than at first. */
    private static RainCover rich() {
        RainCover y = Check.told("miller 5 0;eeler 4 0;cover 0 1 frost 9 8;odds 1 2 3 4;floor 9;sky wet;");
        y.week(3);
        y.keep(0);
        y.keep(1);
        y.see(0, 1, 3);
        y.sheet(0, 1, 7);
        y.read(0, 0, 0, 1);
        return y;
    }

    private void whatATextTells() {
        term("A text that is taken tells all, in place of what there was; nothing is SEEN; IMAGES are gone.");
        for (String text : new String[] {"", "sky;", "farmer 1 1;", "floor 5;", "odds 3 3 3 1;"}) {
            x = rich();
            due("something is owed", x.count(5) > 0 ? 1 : 0, 1);
            int lines = Check.tell(x, text);
            due("'" + text + "'", lines, text.isEmpty() ? 0 : 1);
            RainCover other = new RainCover();
            other.sheet(0, 1, 7);
            other.read(0, 0, 0, 1);
            Check.tell(other, text);
            due("'" + text + "' leaves nothing of what there was", Probe.of(x).equals(Probe.of(other)) ? 1 : 0, 1);
        }
        x = rich();
        Check.tell(x, "farmer 1 0;farmer 1 0;");
        due("image 0", x.back(0), STATE);
        due("image 1", x.back(1), STATE);
        due("images", x.count(1), 0);
        due("seen", x.count(0), 0);
        due("week", x.rule(3), 0);
        due("owed", x.owed(0, 1), 0);
        due("seen from the first on", x.see(0, 1, 0), 1);
    }

    private void whatAFaultLeaves() {
        promise(4, "-10 less the place of its FAULT: that which was told stays.");
        String[] faults = {"~", "fog", "farmer 6", "floor 1;floor", FOUR + "farmer", "farmer 1 1;cover 0 1 sun 1 1;"};
        for (int i = 0; i < faults.length; i++) {
            x = rich();
            Check.tell(x, faults[i]);
            due("fault of '" + faults[i] + "'", x.fault(), i + 1);
            due("'" + faults[i] + "' leaves all", butFault(x).equals(butFault(rich())) ? 1 : 0, 1);
        }
    }

    /** What a probe sees, without fault(), which stands first. */
    private static String butFault(RainCover y) {
        String all = Probe.of(y);
        return all.substring(all.indexOf(' ', all.indexOf(": ") + 2));
    }
}
