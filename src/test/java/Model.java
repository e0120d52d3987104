import java.util.ArrayList;
import java.util.Arrays;
import java.util.HashMap;
import java.util.List;
import java.util.Map;

/**
 * The document once more, written as slowly and plainly as may be and in another shape than the program:
 * lists of small objects, every run of weathers played from the start, sheets that are real rows of the machine.
 */
final class Model {
    static final int BAD = -1, STATE = -2, FULL = -3, NONE = -4;
    static final List<String> KINDS = List.of("farmer", "boatman", "miller", "eeler");
    static final List<String> SKIES = List.of("sun", "grey", "wet", "frost");

    static final class One {
        int kind, field, purse;

        One(int kind, int field, int purse) {
            this.kind = kind;
            this.field = field;
            this.purse = purse;
        }

        int gain(int weather) {
            int boatman = switch (weather) { case 0 -> -2; case 1 -> 1; case 2 -> 3; default -> -3; };
            int brings = switch (kind) {
                case 0 -> switch (weather) { case 0 -> 3; case 1 -> 1; case 2 -> -2; default -> -3; };
                case 1 -> boatman;
                case 2 -> weather == 1 ? 3 : -1;
                default -> weather == 2 ? boatman + 1 : boatman - 1;
            };
            return brings * field;
        }
    }

    record Cover(int who, int whom, int weather, int pays, int premium) {
        Cover with(int what, int v) {
            return new Cover(who, whom, what == 2 ? v : weather, what == 3 ? v : pays, what == 4 ? v : premium);
        }

        int part(int what) {
            return new int[] {who, whom, weather, pays, premium}[what];
        }
    }

    static final class World {
        List<One> people = new ArrayList<>();
        List<Cover> covers = new ArrayList<>();
        List<Integer> plan = new ArrayList<>();
        int[] odds = {3, 3, 3, 1};
        int floor = 5;
        int week = 0;
        Map<Integer, Integer> owed = new HashMap<>();

        World copy() {
            World w = new World();
            for (One one : people) w.people.add(new One(one.kind, one.field, one.purse));
            w.covers.addAll(covers);
            w.plan.addAll(plan);
            w.odds = odds.clone();
            w.floor = floor;
            w.week = week;
            w.owed.putAll(owed);
            return w;
        }

        int pay(int from, int to, int due) {
            One payer = people.get(from);
            One paid = people.get(to);
            int has = payer.purse;
            if (has >= due) {
                payer.purse = has - due;
                paid.purse = Math.min(999, paid.purse + due);
                return 0;
            }
            payer.purse = 0;
            paid.purse = Math.min(999, paid.purse + has);
            owed.merge(10 * from + to, due - has, Integer::sum);
            return 1;
        }

        int play(int weather) {
            int fails = 0;
            for (One one : people) one.purse = Math.min(999, Math.max(0, one.purse + one.gain(weather)));
            for (Cover c : covers) {
                if (c.weather == weather) fails += pay(c.who, c.whom, c.pays);
                fails += pay(c.whom, c.who, c.premium);
            }
            week++;
            return fails;
        }

        World after(int... weathers) {
            World w = copy();
            for (int weather : weathers) w.play(weather);
            return w;
        }

        int below() {
            int bits = 0;
            for (int p = 0; p < people.size(); p++) if (people.get(p).purse < floor) bits += 1 << p;
            return bits;
        }

        int purses() {
            return people.stream().mapToInt(one -> one.purse).sum();
        }

        int debts() {
            return owed.values().stream().mapToInt(v -> v).sum();
        }

        int safe(int n) {
            int bits = (1 << people.size()) - 1;
            for (int[] run : runsOf(n)) bits &= ~after(run).below();
            return bits;
        }
    }

    World world = new World();
    final World[] images = new World[2];
    final Object[] sheets = new Object[4];
    StringBuilder tape = new StringBuilder();
    int latestFault = 0;
    int torn = 0;
    List<int[]> seen = new ArrayList<>();

    static List<int[]> runsOf(int n) {
        List<int[]> all = new ArrayList<>();
        for (int code = 0; code < Math.pow(4, n); code++) {
            int[] run = new int[n];
            int rest = code;
            for (int i = n - 1; i >= 0; i--) {
                run[i] = rest % 4;
                rest /= 4;
            }
            all.add(run);
        }
        return all;
    }

    static boolean in(int v, int from, int to) {
        return from <= v && v <= to;
    }

    boolean isOne(int p) {
        return in(p, 0, world.people.size() - 1);
    }

    boolean isCover(int c) {
        return in(c, 0, world.covers.size() - 1);
    }

    // ---- the text

    /** A fault of the text, thrown where it is met. */
    static final class Fault extends Exception {
        private static final long serialVersionUID = 1;
        final int number, place;

        Fault(int number, int place) {
            this.number = number;
            this.place = place;
        }
    }

    final class Parser {
        final String all = tape.toString();
        int at = 0;
        int place = 0;
        String token = "";

        void next() throws Fault {
            while (at < all.length() && all.charAt(at) == ' ') at++;
            place = at;
            String rest = all.substring(at);
            token = rest.replaceFirst("(?s)^([a-z]+|[0-9]+|;|).*$", "$1");
            if (rest.isEmpty()) return;
            if (token.isEmpty() || token.matches("[0-9]{3,}")) throw new Fault(1, place);
            at += token.length();
        }

        int number(int from, int to) throws Fault {
            next();
            if (!token.matches("[0-9]+")) throw new Fault(2, place);
            int v = Integer.parseInt(token);
            if (!in(v, from, to)) throw new Fault(3, place);
            return v;
        }

        int weather() throws Fault {
            if (!SKIES.contains(token)) throw new Fault(2, place);
            return SKIES.indexOf(token);
        }

        void close() throws Fault {
            next();
            if (!token.equals(";")) throw new Fault(2, place);
        }

        World parse(int[] lines) throws Fault {
            World w = new World();
            List<String> once = new ArrayList<>();
            for (next(); !token.isEmpty(); next()) {
                String name = token;
                if (List.of("odds", "floor", "sky").contains(name)) {
                    if (once.contains(name)) throw new Fault(4, place);
                    once.add(name);
                }
                line(w, name);
                lines[0]++;
            }
            for (Cover c : w.covers) {
                if (Math.max(c.who, c.whom) >= w.people.size()) throw new Fault(6, all.length());
            }
            return w;
        }

        void line(World w, String name) throws Fault {
            if (KINDS.contains(name)) {
                if (w.people.size() == 4) throw new Fault(5, place);
                int field = number(1, 5);
                int purse = number(0, 99);
                w.people.add(new One(KINDS.indexOf(name), field, purse));
                close();
            } else if (name.equals("cover")) {
                if (w.covers.size() == 5) throw new Fault(5, place);
                int who = number(0, 3);
                int whom = number(0, 3);
                if (who == whom) throw new Fault(3, place);
                next();
                int weather = weather();
                int pays = number(0, 20);
                w.covers.add(new Cover(who, whom, weather, pays, number(0, 9)));
                close();
            } else if (name.equals("odds")) {
                int[] odds = new int[4];
                for (int i = 0; i < 4; i++) {
                    int left = 10 - Arrays.stream(odds).sum();
                    odds[i] = number(i == 3 ? left : 0, left);
                }
                w.odds = odds;
                close();
            } else if (name.equals("floor")) {
                w.floor = number(0, 99);
                close();
            } else if (name.equals("sky")) {
                for (next(); !token.equals(";"); next()) {
                    if (token.matches("[a-z]+") && w.plan.size() == 8) throw new Fault(5, place);
                    w.plan.add(weather());
                }
            } else {
                throw new Fault(2, place);
            }
        }
    }

    int feed(int c) {
        if (!in(c, 0, 127)) return BAD;
        if (tape.length() == 160) return FULL;
        tape.append((char) c);
        return tape.length();
    }

    int end(int n) {
        if (!in(n, 0, tape.length())) return BAD;
        int had = tape.length();
        tape.setLength(n);
        return had;
    }

    int text() {
        int[] lines = {0};
        try {
            world = new Parser().parse(lines);
            seen.clear();
            Arrays.fill(images, null);
            latestFault = 0;
            return lines[0];
        } catch (Fault f) {
            latestFault = f.number;
            return -10 - f.place;
        } finally {
            tape.setLength(0);
        }
    }

    int fault() {
        return latestFault;
    }

    // ---- what there is

    int rule(int what) {
        return switch (what) {
            case 0 -> world.people.size();
            case 1 -> world.covers.size();
            case 2 -> world.floor;
            case 3 -> world.week;
            case 4 -> world.plan.size();
            case 5 -> world.below();
            default -> BAD;
        };
    }

    int one(int p, int what) {
        if (!isOne(p) || !in(what, 0, 4)) return BAD;
        One one = world.people.get(p);
        if (what == 0) return one.kind;
        if (what == 1) return one.field;
        if (what == 2) return one.purse;
        int bits = 0;
        for (int c = 0; c < world.covers.size(); c++) {
            if (world.covers.get(c).part(what - 3) == p) bits += 1 << c;
        }
        return bits;
    }

    int gain(int p, int weather) {
        return isOne(p) && in(weather, 0, 3) ? 100 + world.people.get(p).gain(weather) : BAD;
    }

    int cover(int c, int what) {
        return isCover(c) && in(what, 0, 4) ? world.covers.get(c).part(what) : BAD;
    }

    int odds(int weather) {
        return in(weather, 0, 3) ? world.odds[weather] : BAD;
    }

    int sky(int i) {
        return in(i, 0, world.plan.size() - 1) ? world.plan.get(i) : BAD;
    }

    int owed(int p, int q) {
        return isOne(p) && isOne(q) && p != q ? world.owed.getOrDefault(10 * p + q, 0) : BAD;
    }

    // ---- what is changed

    int alter(int p, int what, int v) {
        if (!isOne(p)) return BAD;
        One one = world.people.get(p);
        int was;
        if (what == 0 && in(v, 0, 3)) {
            was = one.kind;
            one.kind = v;
        } else if (what == 1 && in(v, 1, 5)) {
            was = one.field;
            one.field = v;
        } else if (what == 2 && in(v, 0, 999)) {
            was = one.purse;
            one.purse = v;
        } else {
            return BAD;
        }
        return was;
    }

    int sign(int c, int what, int v) {
        if (!isCover(c) || !in(what, 2, 4) || !in(v, 0, what == 2 ? 3 : what == 3 ? 20 : 9)) return BAD;
        Cover was = world.covers.get(c);
        world.covers.set(c, was.with(what, v));
        return was.part(what);
    }

    int insure(int p, int q, int weather, int pays, int premium) {
        if (!isOne(p) || !isOne(q) || p == q || !in(weather, 0, 3) || !in(pays, 0, 20) || !in(premium, 0, 9)) return BAD;
        if (world.covers.size() == 5) return FULL;
        world.covers.add(new Cover(p, q, weather, pays, premium));
        return world.covers.size() - 1;
    }

    int drop(int c) {
        if (!isCover(c)) return BAD;
        world.covers.remove(c);
        return world.covers.size();
    }

    int shift(int from, int to) {
        if (!in(from, 0, 3) || !in(to, 0, 3) || from == to) return BAD;
        if (world.odds[from] < 1) return STATE;
        world.odds[from] -= 1;
        world.odds[to] += 1;
        return world.odds[to];
    }

    int floor(int v) {
        if (!in(v, 0, 99)) return BAD;
        int was = world.floor;
        world.floor = v;
        return was;
    }

    int plan(int weather) {
        if (!in(weather, 0, 3)) return BAD;
        if (world.plan.size() == 8) return FULL;
        world.plan.add(weather);
        return world.plan.size();
    }

    int cut(int n) {
        if (!in(n, 0, world.plan.size())) return BAD;
        int had = world.plan.size();
        world.plan.subList(n, had).clear();
        return had;
    }

    // ---- weeks

    int week(int weather) {
        if (!in(weather, 0, 3)) return BAD;
        if (world.week == 999) return FULL;
        return world.play(weather);
    }

    int runs(int what) {
        World w = world.copy();
        int fails = 0;
        int first = NONE;
        for (int i = w.plan.size() - 1; i >= 0; i--) {
            if (world.after(planned(i)).play(w.plan.get(i)) > 0) first = i;
        }
        for (int weather : planned(w.plan.size())) fails += w.play(weather);
        return switch (what) {
            case 0 -> fails;
            case 1 -> w.below();
            case 2 -> first;
            case 3 -> w.purses();
            case 4 -> w.debts();
            default -> BAD;
        };
    }

    int[] planned(int n) {
        return world.plan.subList(0, n).stream().mapToInt(v -> v).toArray();
    }

    int ahead(int p) {
        return isOne(p) ? world.after(planned(world.plan.size())).people.get(p).purse : BAD;
    }

    // ---- whatever the weather

    int least(int p, int n, int what) {
        if (!isOne(p) || !in(n, 0, 4) || !in(what, 0, 2)) return BAD;
        List<Integer> purses = new ArrayList<>();
        for (int[] run : runsOf(n)) purses.add(world.after(run).people.get(p).purse);
        int min = purses.stream().min(Integer::compare).orElseThrow();
        int max = purses.stream().max(Integer::compare).orElseThrow();
        return what == 0 ? min : what == 1 ? purses.indexOf(min) : max;
    }

    int safe(int n) {
        return in(n, 0, 4) ? world.safe(n) : BAD;
    }

    int fair(int c) {
        if (!isCover(c)) return BAD;
        Cover cover = world.covers.get(c);
        int premium = 0;
        while (cover.pays * world.odds[cover.weather] > 10 * premium) premium++;
        return premium;
    }

    int help(int pays, int what) {
        if (!in(pays, 1, 20) || !in(what, 0, 1)) return BAD;
        if (world.covers.size() == 5) return FULL;
        int most = Integer.bitCount(world.safe(3));
        int answer = NONE;
        for (int code = 0; code < 400; code++) {
            int who = code / 100, whom = code / 10 % 10, weather = code % 10;
            if (!isOne(who) || !isOne(whom) || who == whom || weather > 3) continue;
            World w = world.copy();
            w.covers.add(new Cover(who, whom, weather, pays, 0));
            int safe = Integer.bitCount(w.safe(3));
            if (safe > most) {
                most = safe;
                answer = code;
            }
        }
        return answer == NONE || what == 0 ? answer : most;
    }

    int spare(int what) {
        if (!in(what, 0, 1)) return BAD;
        int most = Integer.bitCount(world.safe(3));
        int answer = NONE;
        for (int c = 0; c < world.covers.size(); c++) {
            World w = world.copy();
            w.covers.remove(c);
            int safe = Integer.bitCount(w.safe(3));
            if (safe > most) {
                most = safe;
                answer = c;
            }
        }
        return answer == NONE || what == 0 ? answer : most;
    }

    int dear(int what) {
        if (!in(what, 0, 1)) return BAD;
        int[] due = new int[4];
        for (Cover c : world.covers) {
            due[c.weather] += c.pays;
            for (int w = 0; w < 4; w++) due[w] += c.premium;
        }
        int most = Arrays.stream(due).max().orElseThrow();
        int first = 0;
        while (due[first] != most) first++;
        return what == 0 ? first : most;
    }

    // ---- odds

    static long fraction(long above, long below, int what) {
        for (long d = below; d > 1; d--) {
            if (above % d == 0 && below % d == 0) return what == 0 ? above / d : below / d;
        }
        return what == 0 ? above : below;
    }

    long weighed(int n, int p, boolean purse) {
        long sum = 0;
        for (int[] run : runsOf(n)) {
            long weight = 1;
            for (int weather : run) weight *= world.odds[weather];
            World w = world.after(run);
            int has = w.people.get(p).purse;
            sum += weight * (purse ? has : has >= world.floor ? 1 : 0);
        }
        return sum;
    }

    long mean(int p, int n, int what) {
        if (!isOne(p) || !in(n, 0, 4) || !in(what, 0, 1)) return BAD;
        return fraction(weighed(n, p, true), (long) Math.pow(10, n), what);
    }

    long luck(int p, int n, int what) {
        if (!isOne(p) || !in(n, 0, 4) || !in(what, 0, 1)) return BAD;
        return fraction(weighed(n, p, false), (long) Math.pow(10, n), what);
    }

    long forecast(int p, int what) {
        if (!isOne(p) || !in(what, 0, 1)) return BAD;
        long knowing = 0, always = 0;
        for (int w = 0; w < 4; w++) {
            int gain = world.people.get(p).gain(w);
            if (gain > 0) knowing += (long) world.odds[w] * gain;
            always += (long) world.odds[w] * gain;
        }
        return fraction(always < 0 ? knowing : knowing - always, 10, what);
    }

    // ---- debts

    int pays() {
        long[] net = new long[world.people.size()];
        world.owed.forEach((key, v) -> {
            net[key / 10] -= v;
            net[key % 10] += v;
        });
        return settle(net, 0);
    }

    /** Each debtor or creditor in turn is settled with each other of the opposite sign: the fewest payments. */
    static int settle(long[] net, int from) {
        int p = from;
        while (p < net.length && net[p] == 0) p++;
        if (p == net.length) return 0;
        int fewest = Integer.MAX_VALUE;
        for (int q = p + 1; q < net.length; q++) {
            if (net[p] * net[q] < 0) {
                net[q] += net[p];
                long kept = net[p];
                net[p] = 0;
                fewest = Math.min(fewest, 1 + settle(net, p + 1));
                net[p] = kept;
                net[q] -= kept;
            }
        }
        return fewest;
    }

    int forgive() {
        int was = world.debts();
        world.owed.clear();
        return was;
    }

    // ---- weathers from purses

    int see(int p, int n, int v) {
        if (!isOne(p) || !in(n, 1, 4) || !in(v, 0, 255)) return BAD;
        if (seen.size() == 6) return FULL;
        seen.add(new int[] {p, n, v});
        return seen.size();
    }

    int forget(int n) {
        if (!in(n, 0, seen.size())) return BAD;
        int had = seen.size();
        seen = new ArrayList<>(seen.subList(0, n));
        return had;
    }

    List<int[]> fitting() {
        List<int[]> all = new ArrayList<>();
        for (int[] run : runsOf(4)) {
            boolean fits = true;
            for (int[] s : seen) {
                fits &= world.after(Arrays.copyOf(run, s[1])).people.get(s[0]).purse == s[2];
            }
            if (fits) all.add(run);
        }
        return all;
    }

    int fits(int what) {
        if (what != 0 && what != 1 && !in(what, 10, 13)) return BAD;
        List<int[]> all = fitting();
        if (what == 0) return all.size();
        if (what == 1) {
            if (all.isEmpty()) return NONE;
            int[] run = all.get(0);
            return ((run[0] * 4 + run[1]) * 4 + run[2]) * 4 + run[3];
        }
        int bits = 0;
        for (int[] run : all) bits |= 1 << run[what - 10];
        return bits;
    }

    int look(int what) {
        if (!in(what, 0, 1)) return BAD;
        List<int[]> all = fitting();
        int fewest = all.size();
        int answer = NONE;
        for (int p = 0; p < world.people.size(); p++) {
            for (int n = 1; n <= 4; n++) {
                Map<Integer, Integer> left = new HashMap<>();
                for (int[] run : all) {
                    left.merge(world.after(Arrays.copyOf(run, n)).people.get(p).purse, 1, Integer::sum);
                }
                int worst = left.values().stream().mapToInt(v -> v).max().orElse(0);
                if (worst < fewest) {
                    fewest = worst;
                    answer = 10 * p + n;
                }
            }
        }
        return answer == NONE || what == 0 ? answer : fewest;
    }

    // ---- by a seed

    int drift(int seed, int n, int what) {
        if (!in(n, 1, 60) || !in(what, 0, 1)) return BAD;
        World w = world.copy();
        List<Integer> tenths = new ArrayList<>();
        for (int weather = 0; weather < 4; weather++) {
            for (int i = 0; i < world.odds[weather]; i++) tenths.add(weather);
        }
        long s = seed;
        int fails = 0;
        for (int i = 0; i < n; i++) {
            s = (s * 1103515245L + 12345L) & 0xffffffffL;
            fails += w.play(tenths.get((int) (s / 65536 % 32768 % 10)));
        }
        return what == 0 ? fails : w.purses();
    }

    // ---- images, sheets

    int keep(int k) {
        if (!in(k, 0, 1)) return BAD;
        int was = images[k] == null ? 0 : 1;
        images[k] = world.copy();
        return was;
    }

    int back(int k) {
        if (!in(k, 0, 1)) return BAD;
        if (images[k] == null) return STATE;
        world = images[k].copy();
        return world.week;
    }

    int sheet(int k, int lane, int n) {
        if (!in(k, 0, 3) || !in(lane, 0, 2) || n > 40) return BAD;
        try {
            sheets[k] = lane == 0 ? new byte[n] : lane == 1 ? new short[n] : new int[n];
            return 1;
        } catch (NegativeArraySizeException e) {
            return -14;
        }
    }

    int lay(int k, int i, int v) {
        if (!in(k, 0, 3)) return BAD;
        try {
            if (sheets[k] instanceof byte[] b) b[i] = (byte) v;
            else if (sheets[k] instanceof short[] s) s[i] = (short) v;
            else ((int[]) sheets[k])[i] = v;
            return 1;
        } catch (NullPointerException e) {
            return -11;
        } catch (ArrayIndexOutOfBoundsException e) {
            return -12;
        }
    }

    int cell(int k, int lane, int i) {
        if (lane == 0) return ((byte[]) sheets[k])[i];
        if (lane == 1) return ((short[]) sheets[k])[i];
        return ((int[]) sheets[k])[i];
    }

    int read(int k, int lane, int f, int n) {
        if (!in(k, 0, 3) || !in(lane, 0, 2) || !in(n, 0, 20)) return BAD;
        World before = world.copy();
        int went = 0;
        int found = 0;
        try {
            for (int i = 0; i < n; i++) {
                if (week(cell(k, lane, f + i)) < 0) {
                    world = before;
                    return -20 - i;
                }
                went++;
            }
        } catch (NullPointerException e) {
            found = 1;
        } catch (ArrayIndexOutOfBoundsException e) {
            found = 2;
        } catch (ClassCastException e) {
            found = 3;
        }
        torn = found;
        return went;
    }

    int torn() {
        return torn;
    }

    int count(int what) {
        return switch (what) {
            case 0 -> seen.size();
            case 1 -> (images[0] == null ? 0 : 1) + (images[1] == null ? 0 : 1);
            case 2 -> tape.length();
            case 3 -> sheets[0] == null ? NONE : java.lang.reflect.Array.getLength(sheets[0]);
            case 4 -> world.purses();
            case 5 -> world.debts();
            default -> BAD;
        };
    }
}
