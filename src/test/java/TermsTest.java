import java.io.IOException;

/** The terms of the document beside the text: what bounds a number or a row, what a week does at its edges. */
public final class TermsTest extends Sentences {
    private static final int[][] BRINGS = {{3, 1, -2, -3}, {-2, 1, 3, -3}, {-1, 3, -1, -1}, {-3, 0, 4, -4}};

    private TermsTest() throws IOException {
        super("TermsTest");
    }

    public static void main(String[] args) throws IOException {
        TermsTest t = new TermsTest();
        t.answers();
        t.theFirstThatFits();
        t.fractions();
        t.rows();
        t.gains();
        t.pursesByGain();
        t.payments();
        t.orderOfPayments();
        t.debts();
        t.countOfWeeks();
        t.safe();
        t.fit();
        t.check.close();
    }

    // ---- answers

    private void answers() {
        term("Answers: BAD -1 (a number is not as told, there is no such ONE, COVER, IMAGE, SHEET), STATE -2 (as told), FULL -3, NONE -4");
        due("BAD", RainCover.BAD, -1);
        due("STATE", RainCover.STATE, -2);
        due("FULL", RainCover.FULL, -3);
        due("NONE", RainCover.NONE, -4);
    }

    /** Each call that has two answers to refuse by, both at once. */
    private void theFirstThatFits() {
        term("the first that fits");
        feedAll(" ".repeat(160));
        due("feed, BAD ahead of FULL", x.feed(128), BAD);
        due("back, BAD ahead of STATE", x.back(2), BAD);
        due("look, BAD ahead of NONE", x.look(2), BAD);
        due("spare, BAD ahead of NONE", x.spare(2), BAD);
        due("help, BAD ahead of NONE", x.help(0, 0), BAD);
        due("lay, BAD ahead of NULL", x.lay(4, 0, 0), BAD);
        due("read, BAD ahead of NULL", x.read(0, 0, 0, 21), BAD);
        due("sheet, BAD ahead of SIZE", x.sheet(4, 0, -1), BAD);
        due("sheet, BAD ahead of SIZE by its lane", x.sheet(0, 3, -1), BAD);
        x.shift(3, 0);
        due("shift, BAD ahead of STATE", x.shift(3, 3), BAD);
        due("shift, BAD ahead of STATE by where to", x.shift(3, 4), BAD);
        due("shift, STATE", x.shift(3, 0), STATE);

        told("farmer 1 99;farmer 1 99;");
        for (int i = 0; i < 8; i++) {
            x.insure(0, 1, 0, 0, 0);
            x.plan(0);
            x.see(0, 1, 0);
        }
        due("insure, BAD ahead of FULL", x.insure(0, 0, 0, 0, 0), BAD);
        due("insure, BAD ahead of FULL by the premium", x.insure(0, 1, 0, 0, 10), BAD);
        due("insure, FULL", x.insure(0, 1, 0, 0, 0), FULL);
        due("plan, BAD ahead of FULL", x.plan(4), BAD);
        due("plan, FULL", x.plan(0), FULL);
        due("see, BAD ahead of FULL", x.see(0, 1, 256), BAD);
        due("see, FULL", x.see(0, 1, 0), FULL);
        due("help, BAD ahead of FULL", x.help(21, 0), BAD);
        due("help, BAD ahead of FULL by what", x.help(20, 2), BAD);
        due("help, FULL ahead of NONE", x.help(20, 0), FULL);
        due("fits, BAD ahead of NONE", x.fits(2), BAD);
        due("fits, NONE", x.fits(1), NONE);
        letWeeksGo(999);
        due("week, BAD ahead of FULL", x.week(4), BAD);
        due("week, FULL", x.week(0), FULL);
    }

    private void fractions() {
        term("Fractions are in lowest terms, the denominator above 0 (0 is 0 by 1).");
        told("farmer 1 0;odds 0 0 0 10;");
        due("mean 0", x.mean(0, 4, 0), 0);
        due("by 1", x.mean(0, 4, 1), 1);
        due("mean 0 of now", x.mean(0, 0, 1), 1);
        due("luck 0", x.luck(0, 4, 0), 0);
        due("by 1", x.luck(0, 4, 1), 1);
        due("forecast 0", x.forecast(0, 0), 0);
        due("by 1", x.forecast(0, 1), 1);
        x.floor(0);
        due("luck 1", x.luck(0, 4, 0), 1);
        due("by 1", x.luck(0, 4, 1), 1);
        told("farmer 5 50;odds 4 2 2 2;");
        // 5 times (12 + 2 - 4 - 6) tenths are 2; 5 times (12 + 2) tenths are 7.
        due("mean 52", x.mean(0, 1, 0), 52);
        due("by 1", x.mean(0, 1, 1), 1);
        due("forecast 5", x.forecast(0, 0), 5);
        due("by 1", x.forecast(0, 1), 1);
        x.floor(51);
        due("luck 3", x.luck(0, 1, 0), 3);
        due("by 5", x.luck(0, 1, 1), 5);
        // Two of sun, sun with grey, sun with wet, two of grey: 16, 16, 16 and 4 of 100.
        due("luck 13", x.luck(0, 2, 0), 13);
        due("by 25", x.luck(0, 2, 1), 25);
    }

    // ---- rows and numbers

    private void rows() {
        term("ODDS of each (tenths, 10 in all; 3, 3, 3, 1 at first)");
        int[] first = {3, 3, 3, 1};
        for (int w = 0; w < 4; w++) {
            due("at first, " + w, x.odds(w), first[w]);
        }
        for (int w = 1; w < 4; w++) {
            for (int i = 0; i < first[w]; i++) {
                x.shift(w, 0);
                due("in all", x.odds(0) + x.odds(1) + x.odds(2) + x.odds(3), 10);
            }
        }
        due("all of them", x.odds(0), 10);
        due("none", x.odds(3), 0);

        term("PEOPLE (4 at most), by order");
        told("eeler 1 4;miller 2 3;boatman 3 2;farmer 4 1;");
        for (int p = 0; p < 4; p++) {
            due("kind of " + p, x.one(p, 0), 3 - p);
            due("field of " + p, x.one(p, 1), p + 1);
            due("purse of " + p, x.one(p, 2), 4 - p);
        }
        due("four", x.rule(0), 4);
        due("a fifth", x.one(4, 0), BAD);

        term("FLOOR (0 to 99; 5 at first)");
        due("at first", x.rule(2), 5);
        due("99", x.floor(99), 5);
        due("100", x.floor(100), BAD);
        due("0", x.floor(0), 99);
        due("-1", x.floor(-1), BAD);
        due("it is", x.rule(2), 0);

        term("WEEK (0 at first)");
        due("at first", x.rule(3), 0);
        term("OWED by one to another one (0 at first)");
        told("farmer 1 0;farmer 1 0;");
        due("at first", x.owed(0, 1) + x.owed(1, 0), 0);
    }

    // ---- what a weather brings

    private void gains() {
        term("BRINGS of a KIND by sun, grey, wet, frost: farmer 3, 1, -2, -3; boatman as a farmer, sun for wet and wet for sun; "
            + "miller 3 by grey, else -1; eeler 1 more than a boatman by wet, else 1 less. GAIN of a ONE: that times FIELD.");
        for (int kind = 0; kind < 4; kind++) {
            for (int field = 1; field <= 5; field++) {
                told("farmer 1 0;");
                x.alter(0, 0, kind);
                x.alter(0, 1, field);
                for (int w = 0; w < 4; w++) {
                    due("gain of " + kind + ", " + field + " in " + w, x.gain(0, w), 100 + field * BRINGS[kind][w]);
                    x.alter(0, 2, 500);
                    x.week(w);
                    due("purse of " + kind + ", " + field + " behind " + w, x.one(0, 2), 500 + field * BRINGS[kind][w]);
                }
            }
        }
    }

    private void pursesByGain() {
        term("each ONE has GAIN more in his PURSE (0 at least, 999 at most).");
        told("farmer 5 0;");
        int[][] behindSun = {{0, 15}, {983, 998}, {984, 999}, {985, 999}, {999, 999}};
        int[][] behindFrost = {{999, 984}, {16, 1}, {15, 0}, {14, 0}, {1, 0}, {0, 0}};
        for (int[] purse : behindSun) {
            x.alter(0, 2, purse[0]);
            due("fails", x.week(0), 0);
            due(purse[0] + " behind sun", x.one(0, 2), purse[1]);
        }
        for (int[] purse : behindFrost) {
            x.alter(0, 2, purse[0]);
            due("fails", x.week(3), 0);
            due(purse[0] + " behind frost", x.one(0, 2), purse[1]);
        }
        due("nothing is owed by that", x.count(5), 0);
    }

    // ---- covers in a week

    /** One miller covers another for wet; each loses 1 in it. Purses then, fails, what the first and the second owe. */
    private void pay(int purse, int other, int pays, int premium, int... due) {
        told("miller 1 0;miller 1 0;cover 0 1 wet " + pays + " " + premium + ";");
        x.alter(0, 2, purse);
        x.alter(1, 2, other);
        String call = purse + " and " + other + ", pays " + pays + " for " + premium;
        due(call + ": fails", x.week(2), due[2]);
        due(call + ": the first", x.one(0, 2), due[0]);
        due(call + ": the second", x.one(1, 2), due[1]);
        due(call + ": the first owes", x.owed(0, 1), due[3]);
        due(call + ": the second owes", x.owed(1, 0), due[4]);
        due(call + ": week", x.rule(3), 1);
    }

    private void payments() {
        term("Who has not enough pays all that he has: he FAILS once, what lacks is OWED more "
            + "(whom it is paid to has what was paid more, 999 at most).");
        pay(7, 1, 5, 0, 1, 5, 0, 0, 0);
        pay(6, 1, 5, 0, 0, 5, 0, 0, 0);
        pay(5, 1, 5, 0, 0, 4, 1, 1, 0);
        pay(2, 1, 5, 0, 0, 1, 1, 4, 0);
        pay(1, 1, 5, 0, 0, 0, 1, 5, 0);
        pay(0, 0, 5, 0, 0, 0, 1, 5, 0);
        pay(0, 0, 0, 0, 0, 0, 0, 0, 0);
        pay(0, 0, 20, 9, 0, 0, 2, 20, 9);
        pay(999, 999, 20, 0, 978, 999, 0, 0, 0);
        pay(999, 979, 20, 0, 978, 998, 0, 0, 0);
        pay(999, 980, 20, 0, 978, 999, 0, 0, 0);
        pay(999, 981, 20, 0, 978, 999, 0, 0, 0);
        pay(5, 999, 20, 0, 0, 999, 1, 16, 0);
        pay(998, 99, 0, 9, 999, 89, 0, 0, 0);
        pay(991, 99, 0, 9, 999, 89, 0, 0, 0);
        pay(990, 99, 0, 9, 998, 89, 0, 0, 0);
        pay(9, 10, 0, 9, 17, 0, 0, 0, 0);
        pay(9, 9, 0, 9, 16, 0, 1, 0, 1);
        pay(9, 0, 0, 9, 8, 0, 1, 0, 9);
    }

    private void orderOfPayments() {
        term("in its WEATHER who covers PAYS to whom he covers; in each WEATHER whom he covers pays the PREMIUM to him, behind that.");
        pay(21, 1, 20, 9, 9, 11, 0, 0, 0);
        pay(1, 99, 9, 9, 9, 89, 1, 9, 0);
        for (int w = 0; w < 4; w++) {
            for (int in = 0; in < 4; in++) {
                told("miller 1 50;miller 1 50;cover 0 1 sun 7 2;");
                x.sign(0, 2, in);
                x.week(w);
                int gain = w == 1 ? 3 : -1;
                int paid = w == in ? 7 : 0;
                purses(50 + gain - paid + 2, 50 + gain + paid - 2);
            }
        }

        term("Then COVERS, by order:");
        told("miller 1 9;miller 1 0;miller 1 0;cover 0 1 wet 5 0;cover 1 2 wet 5 0;");
        due("what came first can be paid on", x.week(2), 0);
        purses(3, 0, 5);
        told("miller 1 9;miller 1 0;miller 1 0;cover 1 2 wet 5 0;cover 0 1 wet 5 0;");
        due("what comes later can not", x.week(2), 1);
        purses(3, 5, 0);
        due("it is owed", x.owed(1, 2), 5);

        term("A WEEK of a WEATHER, in this order:");
        told("miller 5 0;miller 1 0;cover 0 1 grey 15 0;");
        due("the gain comes first", x.week(1), 0);
        purses(0, 18);
    }

    private void debts() {
        term("what lacks is OWED more");
        told("miller 1 0;miller 1 0;cover 0 1 wet 5 2;");
        due("fails of both", x.week(2), 2);
        due("first", x.owed(0, 1), 5);
        due("back", x.owed(1, 0), 2);
        x.week(2);
        due("more", x.owed(0, 1), 10);
        due("more back", x.owed(1, 0), 4);
        x.week(0);
        due("not in another weather", x.owed(0, 1), 10);
        due("but the premium", x.owed(1, 0), 6);
        x.alter(0, 2, 999);
        x.alter(1, 2, 500);
        due("nothing lacks", x.week(2), 0);
        due("it stays owed", x.owed(0, 1), 10);
        purses(995, 502);

        told("miller 1 0;miller 1 0;miller 1 0;miller 1 0;" + "cover 0 1 wet 20 9;".repeat(5));
        due("each payment fails by itself", x.week(2), 10);
        due("owed", x.owed(0, 1), 100);
        due("owed back", x.owed(1, 0), 45);
        due("others owe nothing", x.count(5), 145);
    }

    private void countOfWeeks() {
        term("WEEK is 1 more.");
        told("farmer 1 9;");
        for (int i = 1; i <= 5; i++) {
            x.week(i % 4);
            due("week", x.rule(3), i);
        }
    }

    // ---- safe, fit

    private void safe() {
        term("SAFE is a ONE for n WEEKS, if by no WEATHERS of these n WEEKS his PURSE is below FLOOR behind the last of them.");
        told("farmer 1 17;farmer 1 16;");
        due("just the floor, 4 weeks", x.safe(4), 1);
        x.floor(6);
        due("below it", x.safe(4), 0);
        x.floor(4);
        due("above it", x.safe(4), 3);
        due("no weeks", x.safe(0), 3);
        x.floor(17);
        due("no weeks, just the floor", x.safe(0), 1);
        x.floor(18);
        due("no weeks, below it", x.safe(0), 0);
        told("farmer 1 0;");
        due("empty", x.safe(4), 0);
        x.floor(0);
        due("floor 0", x.safe(4), 1);
        // Below the floor now, or behind the first week, and yet safe: what counts is behind the last.
        told("miller 1 0;farmer 1 99;cover 0 1 wet 4 9;");
        due("now", x.safe(0), 2);
        due("behind 1", x.safe(1), 3);
        x.floor(9);
        due("behind 1, floor 9", x.safe(1), 3);
        x.floor(10);
        due("behind 1, floor 10", x.safe(1), 2);
        due("behind 2, floor 10", x.safe(2), 3);
    }

    /** Every one of the 256 WEATHERS of 4 WEEKS: four purses of one farmer tell it. */
    private void fit() {
        term("WEATHERS of 4 WEEKS FIT, if by them all would be as SEEN; told by a number to the base 4, the first WEEK's figure the highest.");
        for (int number = 0; number < 256; number++) {
            told("farmer 1 50;");
            int[] weathers = {number / 64, number / 16 % 4, number / 4 % 4, number % 4};
            int purse = 50;
            for (int i = 0; i < 4; i++) {
                purse += BRINGS[0][weathers[i]];
                due("see", x.see(0, i + 1, purse), i + 1);
            }
            due("one fits", x.fits(0), 1);
            due("which", x.fits(1), number);
            for (int i = 0; i < 4; i++) {
                due("week " + i, x.fits(10 + i), 1 << weathers[i]);
            }
        }

        term("SEEN (6): behind so many WEEKS (1 to 4) from now on a ONE's PURSE was so much (0 to 255).");
        told("farmer 5 99;boatman 1 0;");
        due("0 weeks", x.see(0, 0, 99), BAD);
        due("5 weeks", x.see(0, 5, 99), BAD);
        due("-1", x.see(0, 1, -1), BAD);
        due("256", x.see(0, 1, 256), BAD);
        due("255", x.see(0, 1, 255), 1);
        due("none fits", x.fits(0), 0);
        x.forget(0);
        x.alter(0, 2, 240);
        x.see(0, 1, 255);
        due("sun fits", x.fits(10), 1);
        x.see(1, 4, 0);
        for (int i = 3; i <= 6; i++) {
            due("the " + i + "th", x.see(1, 4, 0), i);
        }
        due("the 7th", x.see(1, 4, 0), FULL);
        due("six", x.count(0), 6);
        // Behind sun the boatman has 0; behind three weeks more he has 0 if the last is sun or frost and takes all.
        due("the last week", x.fits(13), 9);
    }
}
