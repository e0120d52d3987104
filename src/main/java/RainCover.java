/**
 * Farmers, boatmen, millers and eelers who stand surety for one another's weather.
 * The words in capitals are those of the document. Every row is made once, with the object,
 * because all calls of a run share one room: no call makes an object.
 */
public final class RainCover {
    public static final int BAD = -1, STATE = -2, FULL = -3, NONE = -4;

    private static final int WEATHERS = 4;
    private static final int MOST_PEOPLE = 4;
    private static final int MOST_COVERS = 5;
    private static final int MOST_PLANNED = 8;
    private static final int MOST_SEEN = 6;
    private static final int MOST_CELLS = 40;
    private static final int MOST_PURSE = 999;
    private static final int MOST_PURSE_TOLD = 99;
    private static final int LAST_WEEK = 999;
    private static final int ALL_ODDS = 10;
    private static final int IMAGES = 2;
    private static final int SHEETS = 4;
    private static final int LANES = 3;
    private static final int WEEKS_AHEAD = 4;
    private static final int RUNS_AHEAD = 256;
    private static final int WEEKS_SAFE = 3;

    private static final int KIND = 0, FIELD = 1, PURSE = 2, ONE_PARTS = 3;
    private static final int WHO = 0, WHOM = 1, WHEN = 2, PAYS = 3, PREMIUM = 4, COVER_PARTS = 5;
    private static final int MOST_FIELD = 5, MOST_PAYS = 20, MOST_PREMIUM = 9, MOST_FLOOR = 99;

    private static final int NO_FAULT = 0, NULL_FAULT = 1, INDEX_FAULT = 2, CAST_FAULT = 3, SIZE_FAULT = 4;

    /** By KIND, then by WEATHER. */
    private static final int[] BRINGS = {
        3, 1, -2, -3,
        -2, 1, 3, -3,
        -1, 3, -1, -1,
        -3, 0, 4, -4
    };

    private final Valley now = new Valley();
    private final Valley trial = new Valley();
    private final Valley[] images = new Valley[IMAGES];
    private final boolean[] kept = new boolean[IMAGES];
    private final Reader reader = new Reader();
    private final Outlook outlook = new Outlook();
    private final Sightings sightings = new Sightings();
    private final Sheet[] sheets = new Sheet[SHEETS];
    private final int[] groups = new int[1 << MOST_PEOPLE];
    private int tornFault = NO_FAULT;

    public RainCover() {
        for (int k = 0; k < IMAGES; k++) {
            images[k] = new Valley();
        }
        for (int k = 0; k < SHEETS; k++) {
            sheets[k] = new Sheet();
        }
    }

    // ---- the text, what there is

    public int feed(int c) {
        if (!within(c, 0, 127)) {
            return BAD;
        }
        return reader.append(c);
    }

    public int end(int n) {
        if (!within(n, 0, reader.length)) {
            return BAD;
        }
        int had = reader.length;
        reader.length = n;
        return had;
    }

    public int text() {
        int answer = reader.takeAll();
        if (answer >= 0) {
            now.copyFrom(reader.draft);
            sightings.size = 0;
            for (int k = 0; k < IMAGES; k++) {
                kept[k] = false;
            }
        }
        return answer;
    }

    public int fault() {
        return reader.wrong;
    }

    public int rule(int what) {
        switch (what) {
            case 0: return now.people;
            case 1: return now.covers;
            case 2: return now.floorAt;
            case 3: return now.weeks;
            case 4: return now.planned;
            case 5: return now.belowFloor();
            default: return BAD;
        }
    }

    public int one(int p, int what) {
        if (!isOne(p)) {
            return BAD;
        }
        switch (what) {
            case KIND:
            case FIELD:
            case PURSE: return now.ones[what][p];
            case 3: return now.coversWith(WHO, p);
            case 4: return now.coversWith(WHOM, p);
            default: return BAD;
        }
    }

    public int gain(int p, int weather) {
        if (!isOne(p) || !isWeather(weather)) {
            return BAD;
        }
        return 100 + now.gainOf(p, weather);
    }

    public int cover(int c, int what) {
        if (!isCover(c) || !within(what, 0, COVER_PARTS - 1)) {
            return BAD;
        }
        return now.terms[what][c];
    }

    public int odds(int weather) {
        return isWeather(weather) ? now.tenths[weather] : BAD;
    }

    public int sky(int i) {
        return within(i, 0, now.planned - 1) ? now.planning[i] : BAD;
    }

    public int owed(int p, int q) {
        if (!isOne(p) || !isOne(q) || p == q) {
            return BAD;
        }
        return now.debts[p][q];
    }

    // ---- what is changed

    public int alter(int p, int what, int v) {
        if (!isOne(p) || !fitsOne(what, v)) {
            return BAD;
        }
        int was = now.ones[what][p];
        now.ones[what][p] = v;
        return was;
    }

    public int sign(int c, int what, int v) {
        if (!isCover(c) || !fitsCover(what, v)) {
            return BAD;
        }
        int was = now.terms[what][c];
        now.terms[what][c] = v;
        return was;
    }

    public int insure(int p, int q, int weather, int pays, int premium) {
        if (!isOne(p) || !isOne(q) || p == q) {
            return BAD;
        }
        if (!fitsCover(WHEN, weather) || !fitsCover(PAYS, pays) || !fitsCover(PREMIUM, premium)) {
            return BAD;
        }
        if (now.covers >= MOST_COVERS) {
            return FULL;
        }
        now.addCover(p, q, weather, pays, premium);
        return now.covers - 1;
    }

    public int drop(int c) {
        if (!isCover(c)) {
            return BAD;
        }
        now.removeCover(c);
        return now.covers;
    }

    public int shift(int from, int to) {
        if (!isWeather(from) || !isWeather(to) || from == to) {
            return BAD;
        }
        if (now.tenths[from] == 0) {
            return STATE;
        }
        now.tenths[from]--;
        now.tenths[to]++;
        return now.tenths[to];
    }

    public int floor(int v) {
        if (!within(v, 0, MOST_FLOOR)) {
            return BAD;
        }
        int was = now.floorAt;
        now.floorAt = v;
        return was;
    }

    public int plan(int weather) {
        if (!isWeather(weather)) {
            return BAD;
        }
        if (now.planned >= MOST_PLANNED) {
            return FULL;
        }
        now.addPlanned(weather);
        return now.planned;
    }

    public int cut(int n) {
        if (!within(n, 0, now.planned)) {
            return BAD;
        }
        int had = now.planned;
        now.planned = n;
        return had;
    }

    // ---- weeks

    public int week(int weather) {
        return now.goWeek(weather);
    }

    public int runs(int what) {
        switch (what) {
            case 0: return followPlan(false);
            case 2: return followPlan(true);
            case 1:
                followPlan(false);
                return trial.belowFloor();
            case 3:
                followPlan(false);
                return trial.allPurses();
            case 4:
                followPlan(false);
                return trial.allDebts();
            default: return BAD;
        }
    }

    public int ahead(int p) {
        if (!isOne(p)) {
            return BAD;
        }
        followPlan(false);
        return trial.purses[p];
    }

    // ---- whatever the weather

    public int least(int p, int n, int what) {
        if (!isOne(p) || !isAhead(n) || !within(what, 0, 2)) {
            return BAD;
        }
        outlook.grow(now, n);
        switch (what) {
            case 0: return outlook.purseBehind(p, n, outlook.firstLeast(p, n));
            case 1: return outlook.firstLeast(p, n);
            default: return outlook.greatest(p, n);
        }
    }

    public int safe(int n) {
        if (!isAhead(n)) {
            return BAD;
        }
        outlook.beginWith(now);
        return outlook.safeBits(n, 0);
    }

    public int fair(int c) {
        if (!isCover(c)) {
            return BAD;
        }
        int tenths = now.terms[PAYS][c] * now.tenths[now.terms[WHEN][c]];
        return (tenths + ALL_ODDS - 1) / ALL_ODDS;
    }

    public int help(int pays, int what) {
        if (!within(pays, 1, MOST_PAYS) || !within(what, 0, 1)) {
            return BAD;
        }
        if (now.covers >= MOST_COVERS) {
            return FULL;
        }
        outlook.searchMore(now, pays);
        return outlook.found(what);
    }

    public int spare(int what) {
        if (!within(what, 0, 1)) {
            return BAD;
        }
        outlook.searchFewer(now);
        return outlook.found(what);
    }

    public int dear(int what) {
        if (!within(what, 0, 1)) {
            return BAD;
        }
        int dearest = 0;
        for (int w = 1; w < WEATHERS; w++) {
            if (now.dueIn(w) > now.dueIn(dearest)) {
                dearest = w;
            }
        }
        return what == 0 ? dearest : now.dueIn(dearest);
    }

    // ---- odds

    public long mean(int p, int n, int what) {
        if (!isOne(p) || !isAhead(n) || !within(what, 0, 1)) {
            return BAD;
        }
        outlook.grow(now, n);
        return part(outlook.weighPurses(p, n), power(ALL_ODDS, n), what);
    }

    public long luck(int p, int n, int what) {
        if (!isOne(p) || !isAhead(n) || !within(what, 0, 1)) {
            return BAD;
        }
        outlook.grow(now, n);
        return part(outlook.weighLuck(p, n), power(ALL_ODDS, n), what);
    }

    public long forecast(int p, int what) {
        if (!isOne(p) || !within(what, 0, 1)) {
            return BAD;
        }
        int out = 0;
        int chosen = 0;
        for (int w = 0; w < WEATHERS; w++) {
            int gains = now.tenths[w] * now.gainOf(p, w);
            out += gains;
            chosen += Math.max(gains, 0);
        }
        return part(chosen - Math.max(out, 0), ALL_ODDS, what);
    }

    // ---- debts

    public int pays() {
        // Who settle among themselves need one payment less than they are: the more such groups, the fewer.
        int all = (1 << now.people) - 1;
        groups[0] = 0;
        for (int set = 1; set <= all; set++) {
            int most = 0;
            int sum = 0;
            for (int p = 0; p < now.people; p++) {
                if ((set >> p & 1) == 1) {
                    sum += now.balanceOf(p);
                    most = Math.max(most, groups[set ^ 1 << p]);
                }
            }
            groups[set] = sum == 0 ? most + 1 : most;
        }
        return now.people - groups[all];
    }

    public int forgive() {
        int was = now.allDebts();
        now.clearDebts();
        return was;
    }

    // ---- weathers from purses

    public int see(int p, int n, int v) {
        if (!isOne(p) || !within(n, 1, WEEKS_AHEAD) || !within(v, 0, 255)) {
            return BAD;
        }
        if (sightings.size >= MOST_SEEN) {
            return FULL;
        }
        sightings.add(p, n, v);
        return sightings.size;
    }

    public int forget(int n) {
        if (!within(n, 0, sightings.size)) {
            return BAD;
        }
        int had = sightings.size;
        sightings.size = n;
        return had;
    }

    public int fits(int what) {
        int i = what - 10;
        if (what != 0 && what != 1 && !within(i, 0, WEEKS_AHEAD - 1)) {
            return BAD;
        }
        outlook.findFitting(now, sightings);
        if (what == 0) {
            return outlook.fitCount;
        }
        if (what == 1) {
            return outlook.fitCount == 0 ? NONE : outlook.fitting[0];
        }
        return outlook.fittingIn(i);
    }

    public int look(int what) {
        if (!within(what, 0, 1)) {
            return BAD;
        }
        outlook.findFitting(now, sightings);
        outlook.searchLook();
        return outlook.found(what);
    }

    // ---- by a seed

    public int drift(int seed, int n, int what) {
        if (!within(n, 1, 60) || !within(what, 0, 1)) {
            return BAD;
        }
        trial.copyFrom(now);
        int fails = 0;
        int next = seed;
        for (int i = 0; i < n; i++) {
            next = next * 1103515245 + 12345;
            fails += trial.live(now.weatherAt((next >>> 16 & 32767) % ALL_ODDS));
        }
        return what == 0 ? fails : trial.allPurses();
    }

    // ---- images, sheets

    public int keep(int k) {
        if (!within(k, 0, IMAGES - 1)) {
            return BAD;
        }
        int was = kept[k] ? 1 : 0;
        images[k].copyFrom(now);
        kept[k] = true;
        return was;
    }

    public int back(int k) {
        if (!within(k, 0, IMAGES - 1)) {
            return BAD;
        }
        if (!kept[k]) {
            return STATE;
        }
        now.copyFrom(images[k]);
        return now.weeks;
    }

    public int sheet(int k, int lane, int n) {
        if (!isSheet(k) || !isLane(lane) || n > MOST_CELLS) {
            return BAD;
        }
        if (n < 0) {
            return -10 - SIZE_FAULT;
        }
        sheets[k].renew(lane, n);
        return 1;
    }

    public int lay(int k, int i, int v) {
        if (!isSheet(k)) {
            return BAD;
        }
        int found = sheets[k].faultAt(sheets[k].lane, i);
        if (found != NO_FAULT) {
            return -10 - found;
        }
        sheets[k].put(i, v);
        return 1;
    }

    public int read(int k, int lane, int f, int n) {
        if (!isSheet(k) || !isLane(lane) || !within(n, 0, 20)) {
            return BAD;
        }
        // The weeks go in a trial, so that there is nothing to undo if one of them is refused.
        trial.copyFrom(now);
        int found = NO_FAULT;
        int went = 0;
        for (int i = 0; i < n && found == NO_FAULT; i++) {
            found = sheets[k].faultAt(lane, f + i);
            if (found == NO_FAULT) {
                if (trial.goWeek(sheets[k].cells[f + i]) < 0) {
                    return -20 - i;
                }
                went++;
            }
        }
        now.copyFrom(trial);
        tornFault = found;
        return went;
    }

    public int torn() {
        return tornFault;
    }

    public int count(int what) {
        switch (what) {
            case 0: return sightings.size;
            case 1: return imagesKept();
            case 2: return reader.length;
            case 3: return sheets[0].lane == Sheet.NOTHING ? NONE : sheets[0].size;
            case 4: return now.allPurses();
            case 5: return now.allDebts();
            default: return BAD;
        }
    }

    private static boolean within(int v, int from, int to) {
        return v >= from && v <= to;
    }

    private static boolean isWeather(int w) {
        return within(w, 0, WEATHERS - 1);
    }

    private static boolean isAhead(int n) {
        return within(n, 0, WEEKS_AHEAD);
    }

    private static boolean isSheet(int k) {
        return within(k, 0, SHEETS - 1);
    }

    private static boolean isLane(int lane) {
        return within(lane, 0, LANES - 1);
    }

    private boolean isOne(int p) {
        return within(p, 0, now.people - 1);
    }

    private boolean isCover(int c) {
        return within(c, 0, now.covers - 1);
    }

    private static boolean fitsOne(int what, int v) {
        switch (what) {
            case KIND: return within(v, 0, 3);
            case FIELD: return within(v, 1, MOST_FIELD);
            case PURSE: return within(v, 0, MOST_PURSE);
            default: return false;
        }
    }

    private static boolean fitsCover(int what, int v) {
        switch (what) {
            case WHEN: return isWeather(v);
            case PAYS: return within(v, 0, MOST_PAYS);
            case PREMIUM: return within(v, 0, MOST_PREMIUM);
            default: return false;
        }
    }

    private int imagesKept() {
        int many = 0;
        for (int k = 0; k < IMAGES; k++) {
            many += kept[k] ? 1 : 0;
        }
        return many;
    }

    /** The trial goes through THE PLAN: how often somebody FAILS, or the first week of it in which somebody does. */
    private int followPlan(boolean tellFirst) {
        trial.copyFrom(now);
        int fails = 0;
        int first = NONE;
        for (int i = 0; i < now.planned; i++) {
            int more = trial.live(now.planning[i]);
            if (more > 0 && first == NONE) {
                first = i;
            }
            fails += more;
        }
        return tellFirst ? first : fails;
    }

    private static long power(int base, int n) {
        long product = 1;
        for (int i = 0; i < n; i++) {
            product *= base;
        }
        return product;
    }

    /** The numerator (what 0) or the denominator of a fraction in lowest terms. */
    private static long part(long above, long below, int what) {
        long common = Math.max(1, commonDivisor(above, below));
        return (what == 0 ? above : below) / common;
    }

    private static long commonDivisor(long a, long b) {
        long greater = a;
        long rest = b;
        // A hundred turns are more than Euclid needs for any two longs.
        for (int turn = 0; turn < 100 && rest != 0; turn++) {
            long left = greater % rest;
            greater = rest;
            rest = left;
        }
        return greater;
    }

    /** What an IMAGE keeps: PEOPLE, COVERS, ODDS, FLOOR, THE PLAN, WEEK, what is OWED. */
    private static final class Valley {
        private int people;
        private final int[][] ones = new int[ONE_PARTS][MOST_PEOPLE];
        private final int[] purses = ones[PURSE];
        private int covers;
        private final int[][] terms = new int[COVER_PARTS][MOST_COVERS];
        private final int[] tenths = new int[WEATHERS];
        private int floorAt;
        private int planned;
        private final int[] planning = new int[MOST_PLANNED];
        private int weeks;
        private final int[][] debts = new int[MOST_PEOPLE][MOST_PEOPLE];

        private Valley() {
            clear();
        }

        private void clear() {
            people = 0;
            covers = 0;
            tenths[0] = 3;
            tenths[1] = 3;
            tenths[2] = 3;
            tenths[3] = 1;
            floorAt = 5;
            planned = 0;
            weeks = 0;
            clearDebts();
        }

        private void clearDebts() {
            for (int p = 0; p < MOST_PEOPLE; p++) {
                for (int q = 0; q < MOST_PEOPLE; q++) {
                    debts[p][q] = 0;
                }
            }
        }

        private void copyFrom(Valley other) {
            people = other.people;
            covers = other.covers;
            floorAt = other.floorAt;
            planned = other.planned;
            weeks = other.weeks;
            copyRows(other.ones, ones);
            copyRows(other.terms, terms);
            copyRows(other.debts, debts);
            System.arraycopy(other.tenths, 0, tenths, 0, WEATHERS);
            System.arraycopy(other.planning, 0, planning, 0, MOST_PLANNED);
        }

        private static void copyRows(int[][] from, int[][] to) {
            for (int i = 0; i < from.length && i < to.length; i++) {
                System.arraycopy(from[i], 0, to[i], 0, Math.min(from[i].length, to[i].length));
            }
        }

        private void addOne(int kind, int field, int purse) {
            if (people < MOST_PEOPLE) {
                ones[KIND][people] = kind;
                ones[FIELD][people] = field;
                ones[PURSE][people] = purse;
                people++;
            }
        }

        private void addCover(int who, int whom, int weather, int pay, int premium) {
            if (covers < MOST_COVERS) {
                terms[WHO][covers] = who;
                terms[WHOM][covers] = whom;
                terms[WHEN][covers] = weather;
                terms[PAYS][covers] = pay;
                terms[PREMIUM][covers] = premium;
                covers++;
            }
        }

        private void removeCover(int c) {
            covers--;
            for (int part = 0; part < COVER_PARTS; part++) {
                for (int i = c; i < covers; i++) {
                    terms[part][i] = terms[part][i + 1];
                }
            }
        }

        private void addPlanned(int weather) {
            if (planned < MOST_PLANNED) {
                planning[planned] = weather;
                planned++;
            }
        }

        private int gainOf(int p, int weather) {
            return BRINGS[ones[KIND][p] * WEATHERS + weather] * ones[FIELD][p];
        }

        private int coversWith(int part, int p) {
            int bits = 0;
            for (int c = 0; c < covers; c++) {
                if (terms[part][c] == p) {
                    bits |= 1 << c;
                }
            }
            return bits;
        }

        private int belowFloor() {
            int bits = 0;
            for (int p = 0; p < people; p++) {
                if (purses[p] < floorAt) {
                    bits |= 1 << p;
                }
            }
            return bits;
        }

        private int allPurses() {
            int sum = 0;
            for (int p = 0; p < people; p++) {
                sum += purses[p];
            }
            return sum;
        }

        private int allDebts() {
            int sum = 0;
            for (int p = 0; p < people; p++) {
                for (int q = 0; q < people; q++) {
                    sum += debts[p][q];
                }
            }
            return sum;
        }

        private int balanceOf(int p) {
            int sum = 0;
            for (int q = 0; q < people; q++) {
                sum += debts[q][p] - debts[p][q];
            }
            return sum;
        }

        private int dueIn(int weather) {
            int sum = 0;
            for (int c = 0; c < covers; c++) {
                sum += terms[PREMIUM][c];
                if (terms[WHEN][c] == weather) {
                    sum += terms[PAYS][c];
                }
            }
            return sum;
        }

        /** The WEATHER that a number below 10 tells by ODDS. */
        private int weatherAt(int number) {
            int weather = 0;
            int behind = tenths[0];
            while (weather < WEATHERS - 1 && number >= behind) {
                weather++;
                behind += tenths[weather];
            }
            return weather;
        }

        private int goWeek(int weather) {
            if (!isWeather(weather)) {
                return BAD;
            }
            if (weeks >= LAST_WEEK) {
                return FULL;
            }
            weeks++;
            return live(weather);
        }

        /** How often somebody FAILS in a WEEK. WEEK stays: weeks that are only thought of are not bounded by it. */
        private int live(int weather) {
            for (int p = 0; p < people; p++) {
                purses[p] = Math.max(0, Math.min(MOST_PURSE, purses[p] + gainOf(p, weather)));
            }
            int fails = 0;
            for (int c = 0; c < covers; c++) {
                int who = terms[WHO][c];
                int whom = terms[WHOM][c];
                if (terms[WHEN][c] == weather) {
                    fails += hand(who, whom, terms[PAYS][c]);
                }
                fails += hand(whom, who, terms[PREMIUM][c]);
            }
            return fails;
        }

        private int hand(int from, int to, int due) {
            int paid = due <= purses[from] ? due : purses[from];
            int full = purses[to] + paid;
            purses[from] -= paid;
            purses[to] = full <= MOST_PURSE ? full : MOST_PURSE;
            debts[from][to] += due - paid;
            return paid < due ? 1 : 0;
        }
    }

    /**
     * THE TAPE, and how it is read. Each FAULT stands at the token that was read last: behind a FAULT nothing
     * more is read, so that the place stays, and what the draft holds then is never used.
     */
    private static final class Reader {
        private static final int TAPE = 160;
        private static final int END = 0, NAME = 1, NUMBER = 2, SEMICOLON = 3, NO_TOKEN = 4;
        private static final int WORDS = 12, FIRST_WEATHER = 4, COVER = 8, ODDS = 9, FLOOR = 10, SKY = 11;
        private static final int UNREADABLE = 1, MISPLACED = 2, OUT_OF_BOUNDS = 3;
        private static final int TOLD_TWICE = 4, TOO_MANY = 5, STRANGER = 6;

        private final int[] bytes = new int[TAPE];
        private int length;
        private int next;
        private int place;
        private int token;
        private int number;
        private int wrong = NO_FAULT;
        private final Valley draft = new Valley();
        private boolean oddsTold;
        private boolean floorTold;
        private boolean skyTold;

        private int append(int c) {
            if (length >= TAPE) {
                return FULL;
            }
            bytes[length] = c;
            length++;
            return length;
        }

        private int takeAll() {
            begin();
            int lines = 0;
            advance();
            for (int turn = 0; turn < TAPE && token != END && wrong == NO_FAULT; turn++) {
                takeLine();
                advance();
                lines++;
            }
            refuseIf(namesStranger(), STRANGER);
            length = 0;
            return wrong == NO_FAULT ? lines : -10 - place;
        }

        private void begin() {
            draft.clear();
            next = 0;
            wrong = NO_FAULT;
            oddsTold = false;
            floorTold = false;
            skyTold = false;
        }

        /** The first FAULT that is met stays. */
        private void refuseIf(boolean met, int fault) {
            if (met && wrong == NO_FAULT) {
                wrong = fault;
            }
        }

        private void takeLine() {
            expect(NAME);
            if (wrong != NO_FAULT) {
                return;
            }
            int word = wordHere();
            switch (word) {
                case 0:
                case 1:
                case 2:
                case 3: takeOne(word); break;
                case COVER: takeCover(); break;
                case ODDS: takeOdds(); break;
                case FLOOR: takeFloor(); break;
                case SKY: takeSky(); break;
                default: wrong = MISPLACED;
            }
        }

        private void takeOne(int kind) {
            refuseIf(draft.people >= MOST_PEOPLE, TOO_MANY);
            int field = takeNumber(1, MOST_FIELD);
            int purse = takeNumber(0, MOST_PURSE_TOLD);
            takeSemicolon();
            draft.addOne(kind, field, purse);
        }

        private void takeCover() {
            refuseIf(draft.covers >= MOST_COVERS, TOO_MANY);
            int who = takeNumber(0, MOST_PEOPLE - 1);
            int whom = takeNumber(0, MOST_PEOPLE - 1);
            refuseIf(who == whom, OUT_OF_BOUNDS);
            advance();
            int weather = weatherHere();
            int pay = takeNumber(0, MOST_PAYS);
            int premium = takeNumber(0, MOST_PREMIUM);
            takeSemicolon();
            draft.addCover(who, whom, weather, pay, premium);
        }

        private void takeOdds() {
            refuseIf(oddsTold, TOLD_TWICE);
            oddsTold = true;
            int left = ALL_ODDS;
            for (int w = 0; w < WEATHERS - 1; w++) {
                draft.tenths[w] = takeNumber(0, left);
                left -= draft.tenths[w];
            }
            draft.tenths[WEATHERS - 1] = takeNumber(left, left);
            takeSemicolon();
        }

        private void takeFloor() {
            refuseIf(floorTold, TOLD_TWICE);
            floorTold = true;
            draft.floorAt = takeNumber(0, MOST_FLOOR);
            takeSemicolon();
        }

        private void takeSky() {
            refuseIf(skyTold, TOLD_TWICE);
            skyTold = true;
            for (int turn = 0; turn <= MOST_PLANNED && wrong == NO_FAULT; turn++) {
                advance();
                if (token == SEMICOLON) {
                    return;
                }
                expect(NAME);
                refuseIf(draft.planned >= MOST_PLANNED, TOO_MANY);
                draft.addPlanned(weatherHere());
            }
        }

        private int takeNumber(int from, int to) {
            advance();
            expect(NUMBER);
            refuseIf(!within(number, from, to), OUT_OF_BOUNDS);
            return wrong == NO_FAULT ? number : 0;
        }

        private void takeSemicolon() {
            advance();
            expect(SEMICOLON);
        }

        private int weatherHere() {
            expect(NAME);
            int weather = wrong == NO_FAULT ? wordHere() - FIRST_WEATHER : 0;
            refuseIf(!isWeather(weather), MISPLACED);
            return wrong == NO_FAULT ? weather : 0;
        }

        private void expect(int kind) {
            refuseIf(token == NO_TOKEN, UNREADABLE);
            refuseIf(token != kind, MISPLACED);
        }

        private boolean namesStranger() {
            for (int c = 0; c < draft.covers; c++) {
                if (draft.terms[WHO][c] >= draft.people || draft.terms[WHOM][c] >= draft.people) {
                    return true;
                }
            }
            return false;
        }

        private void advance() {
            if (wrong != NO_FAULT) {
                return;
            }
            while (next < length && bytes[next] == ' ') {
                next++;
            }
            place = next;
            if (next >= length) {
                token = END;
            } else if (isLetter(bytes[next])) {
                readName();
            } else if (isFigure(bytes[next])) {
                readNumber();
            } else {
                token = bytes[next] == ';' ? SEMICOLON : NO_TOKEN;
                next++;
            }
        }

        private void readName() {
            while (next < length && isLetter(bytes[next])) {
                next++;
            }
            token = NAME;
        }

        private void readNumber() {
            number = 0;
            while (next < length && isFigure(bytes[next])) {
                number = number * 10 + bytes[next] - '0';
                next++;
            }
            token = next - place <= 2 ? NUMBER : NO_TOKEN;
        }

        private static boolean isLetter(int c) {
            return c >= 'a' && c <= 'z';
        }

        private static boolean isFigure(int c) {
            return c >= '0' && c <= '9';
        }

        private int wordHere() {
            for (int word = 0; word < WORDS; word++) {
                if (spells(wordOf(word))) {
                    return word;
                }
            }
            return -1;
        }

        private boolean spells(String word) {
            if (word.length() != next - place) {
                return false;
            }
            for (int i = 0; i < word.length(); i++) {
                if (word.charAt(i) != bytes[place + i]) {
                    return false;
                }
            }
            return true;
        }

        private static String wordOf(int word) {
            switch (word) {
                case 0: return "farmer";
                case 1: return "boatman";
                case 2: return "miller";
                case 3: return "eeler";
                case 4: return "sun";
                case 5: return "grey";
                case 6: return "wet";
                case 7: return "frost";
                case COVER: return "cover";
                case ODDS: return "odds";
                case FLOOR: return "floor";
                default: return "sky";
            }
        }
    }

    /** What was SEEN, in the order in which it was. */
    private static final class Sightings {
        private int size;
        private final int[] ones = new int[MOST_SEEN];
        private final int[] weeks = new int[MOST_SEEN];
        private final int[] purses = new int[MOST_SEEN];

        private void add(int p, int n, int v) {
            if (size < MOST_SEEN) {
                ones[size] = p;
                weeks[size] = n;
                purses[size] = v;
                size++;
            }
        }
    }

    /**
     * The PURSES behind every WEATHERS of some WEEKS, as a tree: behind node i and a WEATHER w comes node 4i + 1 + w,
     * so that all nodes behind the same number of WEEKS stand in the order of the numbers that tell their WEATHERS.
     */
    private static final class Outlook {
        private static final int NODES = 341;
        /** The first node behind so many WEEKS. */
        private static final int[] FIRST = {0, 1, 5, 21, 85};

        private final Valley trial = new Valley();
        private final int[] nodes = new int[NODES * MOST_PEOPLE];
        private final int[] fitting = new int[RUNS_AHEAD];
        private int fitCount;
        private final int[] tally = new int[MOST_PURSE + 1];
        private int best;
        private int bestMeasure;

        private void beginWith(Valley from) {
            trial.copyFrom(from);
            System.arraycopy(trial.purses, 0, nodes, 0, MOST_PEOPLE);
        }

        private void step(int node, int weather) {
            System.arraycopy(nodes, node * MOST_PEOPLE, trial.purses, 0, MOST_PEOPLE);
            trial.live(weather);
            System.arraycopy(trial.purses, 0, nodes, childOf(node, weather) * MOST_PEOPLE, MOST_PEOPLE);
        }

        private static int childOf(int node, int weather) {
            return node * WEATHERS + 1 + weather;
        }

        private void grow(Valley from, int weeks) {
            beginWith(from);
            for (int node = 0; node < FIRST[weeks]; node++) {
                for (int w = 0; w < WEATHERS; w++) {
                    step(node, w);
                }
            }
        }

        private int purseBehind(int p, int weeks, int run) {
            return nodes[(FIRST[weeks] + run) * MOST_PEOPLE + p];
        }

        private static int runsOf(int weeks) {
            return 1 << 2 * weeks;
        }

        private int firstLeast(int p, int weeks) {
            int first = 0;
            for (int run = 1; run < runsOf(weeks); run++) {
                if (purseBehind(p, weeks, run) < purseBehind(p, weeks, first)) {
                    first = run;
                }
            }
            return first;
        }

        private int greatest(int p, int weeks) {
            int most = 0;
            for (int run = 0; run < runsOf(weeks); run++) {
                most = Math.max(most, purseBehind(p, weeks, run));
            }
            return most;
        }

        private long weighPurses(int p, int weeks) {
            long sum = 0;
            for (int run = 0; run < runsOf(weeks); run++) {
                sum += weightOf(run, weeks) * purseBehind(p, weeks, run);
            }
            return sum;
        }

        private long weighLuck(int p, int weeks) {
            long sum = 0;
            for (int run = 0; run < runsOf(weeks); run++) {
                if (purseBehind(p, weeks, run) >= trial.floorAt) {
                    sum += weightOf(run, weeks);
                }
            }
            return sum;
        }

        private long weightOf(int run, int weeks) {
            long weight = 1;
            for (int i = 0; i < weeks; i++) {
                weight *= trial.tenths[run >> 2 * i & 3];
            }
            return weight;
        }

        /** PEOPLE who are SAFE (bits); but once no more than few of them are, the rest is not looked at. */
        private int safeBits(int weeks, int few) {
            int bits = (1 << trial.people) - 1;
            // From frost on down: frost most often is what endangers, and then the search ends early.
            for (int run = runsOf(weeks) - 1; run >= 0 && Integer.bitCount(bits) > few; run--) {
                walkDown(run, weeks);
                bits &= ~belowFloor(FIRST[weeks] + run);
            }
            return bits;
        }

        /** Steps only to the nodes of a run that the run one more did not go through. */
        private void walkDown(int run, int weeks) {
            for (int left = weeks - 1; left >= 0; left--) {
                if ((run + 1 & runsOf(left) - 1) == 0) {
                    step(FIRST[weeks - 1 - left] + (run >> 2 * (left + 1)), run >> 2 * left & 3);
                }
            }
        }

        private int belowFloor(int node) {
            int bits = 0;
            for (int p = 0; p < trial.people; p++) {
                if (nodes[node * MOST_PEOPLE + p] < trial.floorAt) {
                    bits |= 1 << p;
                }
            }
            return bits;
        }

        private void searchMore(Valley from, int pay) {
            beginWith(from);
            begin(Integer.bitCount(safeBits(WEEKS_SAFE, 0)));
            int c = trial.covers;
            trial.addCover(0, 0, 0, pay, 0);
            for (int number = 0; number < MOST_PEOPLE * MOST_PEOPLE * WEATHERS; number++) {
                int who = number >> 4;
                int whom = number >> 2 & 3;
                if (who != whom && who < trial.people && whom < trial.people) {
                    trial.terms[WHO][c] = who;
                    trial.terms[WHOM][c] = whom;
                    trial.terms[WHEN][c] = number & 3;
                    offerMore(100 * who + 10 * whom + (number & 3));
                }
            }
        }

        private void searchFewer(Valley from) {
            beginWith(from);
            begin(Integer.bitCount(safeBits(WEEKS_SAFE, 0)));
            for (int c = 0; c < from.covers; c++) {
                beginWith(from);
                trial.removeCover(c);
                offerMore(c);
            }
        }

        private void begin(int measure) {
            best = NONE;
            bestMeasure = measure;
        }

        private void offerMore(int which) {
            int safe = Integer.bitCount(safeBits(WEEKS_SAFE, bestMeasure));
            if (safe > bestMeasure) {
                best = which;
                bestMeasure = safe;
            }
        }

        private int found(int what) {
            return best == NONE || what == 0 ? best : bestMeasure;
        }

        private void findFitting(Valley from, Sightings seen) {
            grow(from, WEEKS_AHEAD);
            fitCount = 0;
            for (int run = 0; run < RUNS_AHEAD; run++) {
                if (isAsSeen(run, seen)) {
                    fitting[fitCount] = run;
                    fitCount++;
                }
            }
        }

        private boolean isAsSeen(int run, Sightings seen) {
            for (int s = 0; s < seen.size; s++) {
                if (purseWithin(run, seen.ones[s], seen.weeks[s]) != seen.purses[s]) {
                    return false;
                }
            }
            return true;
        }

        /** A PURSE behind the first so many WEEKS of a run of 4. */
        private int purseWithin(int run, int p, int weeks) {
            return purseBehind(p, weeks, run >> 2 * (WEEKS_AHEAD - weeks));
        }

        private int fittingIn(int week) {
            int bits = 0;
            for (int i = 0; i < fitCount; i++) {
                bits |= 1 << (fitting[i] >> 2 * (WEEKS_AHEAD - 1 - week) & 3);
            }
            return bits;
        }

        private void searchLook() {
            begin(fitCount);
            for (int p = 0; p < trial.people; p++) {
                for (int weeks = 1; weeks <= WEEKS_AHEAD; weeks++) {
                    int left = mostLeft(p, weeks);
                    if (left < bestMeasure) {
                        best = 10 * p + weeks;
                        bestMeasure = left;
                    }
                }
            }
        }

        private int mostLeft(int p, int weeks) {
            int most = 0;
            for (int i = 0; i < fitCount; i++) {
                int purse = purseWithin(fitting[i], p, weeks);
                tally[purse]++;
                most = Math.max(most, tally[purse]);
            }
            for (int i = 0; i < fitCount; i++) {
                tally[purseWithin(fitting[i], p, weeks)] = 0;
            }
            return most;
        }
    }

    /** A row of CELLS of a lane, or nothing. What the machine would find is found ahead of it. */
    private static final class Sheet {
        private static final int NOTHING = -1, BYTES = 0, SHORTS = 1;

        private int lane = NOTHING;
        private int size;
        private final int[] cells = new int[MOST_CELLS];

        private void renew(int newLane, int n) {
            lane = newLane;
            size = n;
            for (int i = 0; i < MOST_CELLS; i++) {
                cells[i] = 0;
            }
        }

        private int faultAt(int asLane, int i) {
            if (lane == NOTHING) {
                return NULL_FAULT;
            }
            if (lane != asLane) {
                return CAST_FAULT;
            }
            return within(i, 0, size - 1) ? NO_FAULT : INDEX_FAULT;
        }

        private void put(int i, int v) {
            switch (lane) {
                case BYTES: cells[i] = (byte) v; break;
                case SHORTS: cells[i] = (short) v; break;
                default: cells[i] = v;
            }
        }
    }
}
