import java.util.Random;

/** Runs of calls, chosen by fixed seeds, that the program and the model must answer alike. */
public final class ModelTest {
    private static final int OBJECTS = 1500;
    private static final int MOST_CALLS = 512;
    private static final String[] KINDS = {"farmer", "boatman", "miller", "eeler"};
    private static final String[] SKIES = {"sun", "grey", "wet", "frost"};

    private final Check check;
    private final Random random;
    private final RainCover x = new RainCover();
    private final Model m = new Model();
    private final StringBuilder told = new StringBuilder();
    private int calls = 0;

    private ModelTest(Check check, long seed) {
        this.check = check;
        this.random = new Random(seed);
    }

    public static void main(String[] args) {
        Check check = new Check("ModelTest");
        int objects = args.length > 0 ? Integer.parseInt(args[0]) : OBJECTS;
        int from = args.length > 1 ? Integer.parseInt(args[1]) : 0;
        for (int seed = from; seed < from + objects && check.wrong() < 20; seed++) {
            new ModelTest(check, seed).run();
        }
        check.close();
    }

    private void run() {
        if (random.nextInt(20) != 0) {
            tell();
        }
        while (calls < MOST_CALLS) {
            if (random.nextInt(120) == 0) {
                tell();
            }
            call(random.nextInt(52));
        }
    }

    private void due(String call, long got, long want) {
        calls++;
        told.append(call).append('=').append(got).append(' ');
        check.due(got == want ? "" : told.toString(), got, want);
    }

    private int number(int from, int to) {
        int odd = random.nextInt(40);
        if (odd == 0) return from - 1;
        if (odd == 1) return to + 1;
        if (odd == 2) return new int[] {Integer.MIN_VALUE, Integer.MAX_VALUE, -7, 1000, 4, 5}[random.nextInt(6)];
        return from + random.nextInt(to - from + 1);
    }

    private int who() {
        return number(0, Math.max(0, m.world.people.size() - 1));
    }

    private int which() {
        return number(0, Math.max(0, m.world.covers.size() - 1));
    }

    private int weather() {
        return number(0, 3);
    }

    // ---- texts

    private void tell() {
        String text = spoiled(line(random.nextInt(4) == 0));
        if (random.nextInt(10) != 0) {
            due("end(0)", x.end(0), m.end(0));
        }
        for (int i = 0; i < text.length() && calls < MOST_CALLS; i++) {
            int c = text.charAt(i);
            due("feed(" + c + ")", x.feed(c), m.feed(c));
        }
        due("text()", x.text(), m.text());
        due("fault()", x.fault(), m.fault());
    }

    private String line(boolean wild) {
        StringBuilder s = new StringBuilder();
        int people = wild ? random.nextInt(6) : 2 + random.nextInt(3);
        int covers = wild ? random.nextInt(7) : random.nextInt(4);
        for (int p = 0; p < people; p++) {
            s.append(KINDS[random.nextInt(4)]).append(gap()).append(1 + random.nextInt(wild ? 6 : 5))
                .append(' ').append(random.nextInt(random.nextInt(4) == 0 ? 100 : 30)).append(gap()).append(';');
        }
        for (int c = 0; c < covers; c++) {
            int who = random.nextInt(wild ? 5 : people);
            int whom = wild ? random.nextInt(5) : (who + 1 + random.nextInt(people - 1)) % people;
            s.append("cover ").append(who).append(' ').append(whom).append(gap()).append(SKIES[random.nextInt(4)]).append(gap())
                .append(random.nextInt(wild ? 22 : 21)).append(' ').append(random.nextInt(wild ? 11 : 6)).append(';');
        }
        int more = random.nextInt(wild ? 3 : 2);
        for (int i = 0; i < more; i++) {
            if (random.nextBoolean()) s.append("floor ").append(random.nextInt(12)).append(';');
            if (random.nextInt(3) == 0) s.append(odds(wild));
            if (random.nextBoolean()) s.append(sky(wild));
        }
        return s.toString();
    }

    private String gap() {
        return " ".repeat(random.nextInt(8) == 0 ? 2 : random.nextInt(2));
    }

    private String odds(boolean wild) {
        int a = random.nextInt(6), b = random.nextInt(5), c = random.nextInt(wild ? 4 : 2);
        return "odds " + a + " " + b + " " + c + " " + Math.max(0, 10 - a - b - c - (random.nextInt(9) == 0 ? 1 : 0)) + ";";
    }

    private String sky(boolean wild) {
        StringBuilder s = new StringBuilder("sky");
        int n = random.nextInt(wild ? 10 : 6);
        for (int i = 0; i < n; i++) {
            s.append(' ').append(SKIES[random.nextInt(4)]);
        }
        return s.append(';').toString();
    }

    private String spoiled(String text) {
        StringBuilder s = new StringBuilder(text);
        int often = random.nextInt(4) == 0 ? 1 + random.nextInt(2) : 0;
        for (int i = 0; i < often && s.length() > 0; i++) {
            int at = random.nextInt(s.length());
            switch (random.nextInt(4)) {
                case 0 -> s.deleteCharAt(at);
                case 1 -> s.insert(at, "a;0 9A\t~zk{`/:".charAt(random.nextInt(14)));
                case 2 -> s.setCharAt(at, "a;0 9A\t~zk{`/:".charAt(random.nextInt(14)));
                default -> s.setLength(at);
            }
        }
        return s.toString();
    }

    // ---- calls

    private void call(int which) {
        if (which < 11) ask(which);
        else if (which < 19) change(which);
        else if (which < 31) foresee(which);
        else if (which < 38) tellWeathers(which);
        else keepAndRead(which);
    }

    private void ask(int which) {
        int a, b;
        switch (which) {
            case 0 -> { a = number(0, 127); due("feed(" + a + ")", x.feed(a), m.feed(a)); }
            case 1 -> { a = number(0, Math.max(1, m.tape.length())); due("end(" + a + ")", x.end(a), m.end(a)); }
            case 2 -> due("torn()", x.torn(), m.torn());
            case 3 -> due("fault()", x.fault(), m.fault());
            case 4 -> { a = number(0, 5); due("rule(" + a + ")", x.rule(a), m.rule(a)); }
            case 5 -> { a = who(); b = number(0, 4); due("one(" + a + "," + b + ")", x.one(a, b), m.one(a, b)); }
            case 6 -> { a = who(); b = weather(); due("gain(" + a + "," + b + ")", x.gain(a, b), m.gain(a, b)); }
            case 7 -> { a = which(); b = number(0, 4); due("cover(" + a + "," + b + ")", x.cover(a, b), m.cover(a, b)); }
            case 8 -> { a = weather(); due("odds(" + a + ")", x.odds(a), m.odds(a)); }
            case 9 -> { a = number(0, 7); due("sky(" + a + ")", x.sky(a), m.sky(a)); }
            default -> { a = who(); b = who(); due("owed(" + a + "," + b + ")", x.owed(a, b), m.owed(a, b)); }
        }
    }

    private void change(int which) {
        int a, b, c;
        switch (which) {
            case 11 -> {
                a = who();
                b = number(0, 2);
                c = b == 2 ? number(0, random.nextInt(5) == 0 ? 999 : 40) : b == 1 ? number(1, 5) : number(0, 3);
                due("alter(" + a + "," + b + "," + c + ")", x.alter(a, b, c), m.alter(a, b, c));
            }
            case 12 -> {
                a = which();
                b = number(2, 4);
                c = number(0, b == 2 ? 3 : b == 3 ? 20 : 9);
                due("sign(" + a + "," + b + "," + c + ")", x.sign(a, b, c), m.sign(a, b, c));
            }
            case 13 -> {
                a = who();
                b = who();
                c = weather();
                int pays = number(0, 20), premium = number(0, 9);
                due("insure(" + a + "," + b + "," + c + "," + pays + "," + premium + ")",
                    x.insure(a, b, c, pays, premium), m.insure(a, b, c, pays, premium));
            }
            case 14 -> { a = which(); due("drop(" + a + ")", x.drop(a), m.drop(a)); }
            case 15 -> { a = weather(); b = weather(); due("shift(" + a + "," + b + ")", x.shift(a, b), m.shift(a, b)); }
            case 16 -> { a = number(0, random.nextInt(4) == 0 ? 99 : 12); due("floor(" + a + ")", x.floor(a), m.floor(a)); }
            case 17 -> { a = weather(); due("plan(" + a + ")", x.plan(a), m.plan(a)); }
            default -> { a = number(0, Math.max(1, m.world.plan.size())); due("cut(" + a + ")", x.cut(a), m.cut(a)); }
        }
    }

    private void foresee(int which) {
        int a, b, c;
        switch (which) {
            case 19 -> { a = weather(); due("week(" + a + ")", x.week(a), m.week(a)); }
            case 20 -> { a = number(0, 4); due("runs(" + a + ")", x.runs(a), m.runs(a)); }
            case 21 -> { a = who(); due("ahead(" + a + ")", x.ahead(a), m.ahead(a)); }
            case 22 -> {
                a = who();
                b = number(0, 4);
                c = number(0, 2);
                due("least(" + a + "," + b + "," + c + ")", x.least(a, b, c), m.least(a, b, c));
            }
            case 23 -> { a = number(0, 4); due("safe(" + a + ")", x.safe(a), m.safe(a)); }
            case 24 -> { a = which(); due("fair(" + a + ")", x.fair(a), m.fair(a)); }
            case 25 -> { a = number(1, 20); b = number(0, 1); due("help(" + a + "," + b + ")", x.help(a, b), m.help(a, b)); }
            case 26 -> { a = number(0, 1); due("spare(" + a + ")", x.spare(a), m.spare(a)); }
            case 27 -> { a = number(0, 1); due("dear(" + a + ")", x.dear(a), m.dear(a)); }
            case 28 -> {
                a = who();
                b = number(0, 4);
                c = number(0, 1);
                due("mean(" + a + "," + b + "," + c + ")", x.mean(a, b, c), m.mean(a, b, c));
            }
            case 29 -> {
                a = who();
                b = number(0, 4);
                c = number(0, 1);
                due("luck(" + a + "," + b + "," + c + ")", x.luck(a, b, c), m.luck(a, b, c));
            }
            default -> { a = who(); b = number(0, 1); due("forecast(" + a + "," + b + ")", x.forecast(a, b), m.forecast(a, b)); }
        }
    }

    private void tellWeathers(int which) {
        int a, b, c;
        switch (which) {
            case 31 -> due("pays()", x.pays(), m.pays());
            case 32 -> {
                if (random.nextInt(6) == 0) due("forgive()", x.forgive(), m.forgive());
            }
            case 33, 34 -> {
                a = who();
                b = number(1, 4);
                c = number(0, 60);
                if (random.nextInt(3) != 0 && m.isOne(a) && Model.in(b, 1, 4)) {
                    int[] run = Model.runsOf(b).get(random.nextInt(1 << 2 * b));
                    c = m.world.after(run).people.get(a).purse;
                }
                due("see(" + a + "," + b + "," + c + ")", x.see(a, b, c), m.see(a, b, c));
            }
            case 35 -> { a = number(0, 2); due("forget(" + a + ")", x.forget(a), m.forget(a)); }
            case 36 -> {
                a = random.nextInt(3) == 0 ? number(0, 1) : number(10, 13);
                due("fits(" + a + ")", x.fits(a), m.fits(a));
            }
            default -> { a = number(0, 1); due("look(" + a + ")", x.look(a), m.look(a)); }
        }
    }

    private void keepAndRead(int which) {
        int a, b, c, d;
        switch (which) {
            case 38 -> {
                a = random.nextInt();
                b = number(1, 60);
                c = number(0, 1);
                due("drift(" + a + "," + b + "," + c + ")", x.drift(a, b, c), m.drift(a, b, c));
            }
            case 39 -> { a = number(0, 1); due("keep(" + a + ")", x.keep(a), m.keep(a)); }
            case 40 -> { a = number(0, 1); due("back(" + a + ")", x.back(a), m.back(a)); }
            case 41 -> {
                a = number(0, 3);
                b = number(0, 2);
                c = number(0, 40);
                due("sheet(" + a + "," + b + "," + c + ")", x.sheet(a, b, c), m.sheet(a, b, c));
            }
            case 42, 43, 44, 45, 46 -> {
                a = number(0, 3);
                b = number(0, 9);
                c = number(0, 3) + (random.nextInt(4) == 0 ? 65536 * random.nextInt(3) + 256 * random.nextInt(3) : 0);
                due("lay(" + a + "," + b + "," + c + ")", x.lay(a, b, c), m.lay(a, b, c));
            }
            case 47, 48, 49 -> {
                a = number(0, 3);
                b = random.nextInt(3) == 0 ? number(0, 2) : laneOf(a);
                c = number(0, 30);
                d = number(0, 20);
                due("read(" + a + "," + b + "," + c + "," + d + ")", x.read(a, b, c, d), m.read(a, b, c, d));
                due("torn()", x.torn(), m.torn());
            }
            default -> { a = number(0, 5); due("count(" + a + ")", x.count(a), m.count(a)); }
        }
    }

    private int laneOf(int k) {
        if (!Model.in(k, 0, 3)) return 0;
        return m.sheets[k] instanceof short[] ? 1 : m.sheets[k] instanceof int[] ? 2 : 0;
    }
}
