import java.util.ArrayList;
import java.util.Arrays;
import java.util.HashMap;
import java.util.List;
import java.util.Map;
import java.util.regex.Matcher;
import java.util.regex.Pattern;

/**
 * The post once more, written sentence by sentence from ../shared/DOC.md with what the Java library offers, and with no regard for
 * LANGUAGE.md or for speed: it looks for each answer in the plainest way. WholeTest holds PennyPost against it.
 */
final class PlainPost {
    static final int NONE = -1, UNKNOWN = -2, OUTSIDE = -3, NOT = -4, FULL = -5;
    private static final int LEAST_INT = Integer.MIN_VALUE;
    private static final Pattern TOKEN = Pattern.compile("[a-z]+|[0-9]+|[^ ]", Pattern.DOTALL);

    private record Way(int a, int b, int miles, int hours, int every, int first, int cost) {
        int other(int town) {
            return town == a ? b : town == b ? a : NONE;
        }

        boolean leavesIn(int hour) {
            return hour % every == first;
        }

        int leavesFrom(int hour) {
            int then = hour;
            while (!leavesIn(then)) then++;
            return then;
        }
    }

    private record Clause(String kind, int number, int pence) { }

    private record Act(List<Clause> clauses, int day, int[] known) {
        List<Clause> all(String kind) {
            return clauses.stream().filter(c -> c.kind.equals(kind)).toList();
        }

        int free() {
            List<Clause> all = all("free");
            return all.isEmpty() ? 0 : all.get(all.size() - 1).number;
        }
    }

    private static final class Letter {
        int from, to, sheets, drams, worth, kind, with, written;
        int where, town, refused, paid, borne, ended = NONE;
        int goal, comesTo, comesIn;

        boolean isFranked(int member, int week) {
            return kind == 2 && with == member && written / 24 / 7 == week;
        }
    }

    private record Meeting(int member, int town, int hour) { }

    private record Path(int a, int b, int length) { }

    private record Want(int from, int to, int people, int worth, int times) { }

    private record Plan(List<Integer> prices, int letters, int debt, int broke) { }

    private final List<Way> ways = new ArrayList<>();
    private final StringBuilder text = new StringBuilder();
    private final List<Act> acts = new ArrayList<>();
    private final List<Letter> letters = new ArrayList<>();
    private final List<Meeting> meetings = new ArrayList<>();
    private final List<Path> paths = new ArrayList<>();
    private final List<Want> wants = new ArrayList<>();
    private final List<Integer> prices = new ArrayList<>();
    private final int[] purses = new int[10];
    private final int[][] codes = new int[10][10];
    private int hour, doors = 1, allPaid, allRuns;
    private int key, wash = 48, fixed = 1000, each = 1, grow = 1, limit, smugglers = NONE;

    PlainPost() {
        Arrays.fill(purses, 200);
    }

    private static boolean in(long v, long least, long most) {
        return least <= v && v <= most;
    }

    private static boolean towns(int... towns) {
        return Arrays.stream(towns).allMatch(t -> in(t, 0, 9));
    }

    private static int up(int v, int by) {
        return v / by + (v % by > 0 ? 1 : 0);
    }

    // ---- the land

    public int way(int a, int b, int miles, int hours, int every, int first, int cost) {
        if (!towns(a, b)) return UNKNOWN;
        boolean told = in(miles, 1, 200) && in(hours, 1, 40) && in(every, 1, 24) && in(first, 0, every - 1) && in(cost, 0, 999);
        if (a == b || !told) return OUTSIDE;
        if (ways.stream().anyMatch(w -> w.other(a) == b)) return NOT;
        if (ways.size() == 16) return FULL;
        ways.add(new Way(a, b, miles, hours, every, first, cost));
        return ways.size() - 1;
    }

    public int far(int a, int b) {
        if (!towns(a, b)) return UNKNOWN;
        return miles(a, b, 0);
    }

    /** All walks that meet no town twice; NONE. */
    private int miles(int at, int to, int met) {
        if (at == to) return 0;
        int best = NONE;
        for (Way w : ways) {
            int other = w.other(at);
            if (other == NONE || (met >> other & 1) != 0) continue;
            int rest = miles(other, to, met | 1 << at);
            if (rest != NONE && (best == NONE || w.miles + rest < best)) best = w.miles + rest;
        }
        return best;
    }

    public int due(int a, int b, int hour) {
        if (!towns(a, b)) return UNKNOWN;
        if (!in(hour, 0, 20000)) return OUTSIDE;
        return soonest(a, hour)[b];
    }

    /** The least hour in each town: the town that is reached next is settled, then the ways from it. */
    private int[] soonest(int from, int hour) {
        int[] there = new int[10];
        Arrays.fill(there, Integer.MAX_VALUE);
        there[from] = hour;
        boolean[] settled = new boolean[10];
        for (int round = 0; round < 10; round++) {
            int at = NONE;
            for (int t = 0; t < 10; t++) {
                if (!settled[t] && there[t] != Integer.MAX_VALUE && (at == NONE || there[t] < there[at])) at = t;
            }
            if (at == NONE) break;
            settled[at] = true;
            for (Way w : ways) {
                int other = w.other(at);
                if (other != NONE) there[other] = Math.min(there[other], w.leavesFrom(there[at]) + w.hours);
            }
        }
        return Arrays.stream(there).map(h -> h == Integer.MAX_VALUE ? NONE : h).toArray();
    }

    public int next(int a, int b, int hour) {
        if (!towns(a, b)) return UNKNOWN;
        if (!in(hour, 0, 20000)) return OUTSIDE;
        int due = soonest(a, hour)[b];
        if (a == b || due == NONE) return NONE;
        for (int w = 0; w < ways.size(); w++) {
            int other = ways.get(w).other(a);
            if (other != NONE && soonest(other, ways.get(w).leavesFrom(hour) + ways.get(w).hours)[b] == due) return w;
        }
        throw new IllegalStateException("due, but by no way");
    }

    // ---- acts

    public int write(long bytes, int n) {
        if (!in(n, 1, 8)) return OUTSIDE;
        if (text.length() + n > 160) return FULL;
        for (int i = 0; i < n; i++) {
            text.append((char) (bytes >> 8 * i & 255));
        }
        return text.length();
    }

    public int erase() {
        int had = text.length();
        text.setLength(0);
        return had;
    }

    public int fault() {
        return read(new ArrayList<>());
    }

    /** What may stand next, one token at a time: a kind of clause, its number, pay, P, a semicolon. */
    private int read(List<Clause> into) {
        Matcher m = TOKEN.matcher(text);
        String kind = null;
        int number = NONE;
        int step = 0;
        while (m.find()) {
            String token = m.group();
            boolean stands = switch (step) {
                case 0 -> List.of("to", "over", "weigh", "free", "ahead", "least").contains(token);
                case 1 -> isNumber(token, kind.matches("to|over|weigh") ? 1 : 0, kind.matches("to|over") ? 999 : kind.equals("weigh") ? 64 : 99);
                case 2 -> token.equals("pay");
                case 3 -> isNumber(token, 0, 99);
                default -> token.equals(";") && into.size() < 8;
            };
            if (!stands) return m.start();
            if (step == 0) kind = token;
            if (step == 1) number = Integer.parseInt(token);
            if (step == 3) into.add(new Clause(kind, number, Integer.parseInt(token)));
            if (step == 1 && !kind.matches("to|over")) {
                into.add(new Clause(kind, number, 0));
                step = 3;
            }
            step = (step + 1) % 5;
        }
        return step == 4 ? NONE : text.length();
    }

    private static boolean isNumber(String token, int least, int most) {
        return token.matches("[0-9]{1,3}") && in(Integer.parseInt(token), least, most);
    }

    public int force(int day) {
        if (!in(day, 0, 1000)) return OUTSIDE;
        List<Clause> clauses = new ArrayList<>();
        if (read(clauses) != NONE) return NOT;
        if (acts.size() == 5) return FULL;
        acts.add(new Act(clauses, day, soonest(0, hour)));
        text.setLength(0);
        return acts.size() - 1;
    }

    public int knows(int town, int act) {
        if (!towns(town) || !in(act, 0, acts.size() - 1)) return UNKNOWN;
        return acts.get(act).known[town];
    }

    public int act(int town, int hour, int day) {
        if (!towns(town)) return UNKNOWN;
        if (!in(hour, 0, 20000) || !in(day, 0, 1000)) return OUTSIDE;
        return told(town, hour, day);
    }

    private int told(int town, int hour, int day) {
        for (int from = day; from >= 0; from--) {
            for (int i = acts.size() - 1; i >= 0; i--) {
                Act act = acts.get(i);
                if (act.day == from && act.known[town] != NONE && act.known[town] <= hour) return i;
            }
        }
        return NONE;
    }

    public int postage(int act, int miles, int sheets, int drams, boolean ahead) {
        if (!in(act, 0, acts.size() - 1)) return UNKNOWN;
        if (!in(miles, 0, 5000) || !in(sheets, 1, 9) || !in(drams, 1, 64)) return OUTSIDE;
        return charge(acts.get(act), miles, sheets, drams, ahead);
    }

    private static int charge(Act act, int miles, int sheets, int drams, boolean ahead) {
        int by = by(act, miles);
        if (by == NONE) return NONE;
        Clause clause = act.clauses.get(by);
        int pence = clause.pence;
        if (clause.kind.equals("over")) {
            int beyond = act.all("to").stream().mapToInt(Clause::number).max().orElse(0);
            int base = act.all("to").stream().filter(c -> c.number == beyond).mapToInt(Clause::pence).findFirst().orElse(0);
            pence = base + clause.pence * up(miles - beyond, clause.number);
        }
        int sum = pence * (act.all("weigh").isEmpty() ? sheets : up(drams, act.all("weigh").get(0).number));
        if (ahead) sum = Math.max(0, sum - act.all("ahead").stream().mapToInt(Clause::number).sum());
        return Math.max(sum, act.all("least").stream().mapToInt(Clause::number).max().orElse(0));
    }

    public int why(int act, int miles) {
        if (!in(act, 0, acts.size() - 1)) return UNKNOWN;
        if (!in(miles, 0, 5000)) return OUTSIDE;
        return by(acts.get(act), miles);
    }

    private static int by(Act act, int miles) {
        for (int m = miles; m <= 999; m++) {
            for (int c = 0; c < act.clauses.size(); c++) {
                if (act.clauses.get(c).kind.equals("to") && act.clauses.get(c).number == m) return c;
            }
        }
        return act.all("over").isEmpty() ? NONE : act.clauses.indexOf(act.all("over").get(0));
    }

    // ---- letters

    public int letter(int from, int to, int sheets, int drams, int worth, int kind, int with) {
        if (!towns(from, to) || from == to || kind == 2 && !in(with, 0, 5)) return UNKNOWN;
        boolean told = in(sheets, 1, 9) && in(drams, 1, 64) && in(worth, 0, 200) && in(kind, 0, 2);
        if (!told || kind == 0 && !in(with, 0, 7) || kind == 1 && !in(with, 0, 2399)) return OUTSIDE;
        if (letters.size() == 24) return FULL;
        Letter l = new Letter();
        l.from = from;
        l.to = to;
        l.sheets = sheets;
        l.drams = drams;
        l.worth = worth;
        l.kind = kind;
        l.with = with;
        l.written = hour;
        l.town = from;
        l.goal = to;
        if (kind == 1) {
            int act = told(from, hour, hour / 24);
            int postage = act == NONE ? NONE : postageOf(l, act, true);
            if (postage == NONE || purses[from] < postage) return NOT;
            pay(l, from, postage);
        }
        letters.add(l);
        return letters.size() - 1;
    }

    private int postageOf(Letter l, int act, boolean ahead) {
        int miles = far(l.from, l.to);
        return miles == NONE ? NONE : charge(acts.get(act), miles, l.sheets, l.drams, ahead);
    }

    private void pay(Letter l, int town, int pence) {
        purses[town] -= pence;
        l.paid += pence;
        allPaid += pence;
    }

    public int hours(int n) {
        if (!in(n, 1, 60) || hour + n > 9000) return OUTSIDE;
        for (int i = 0; i < n; i++) {
            pass();
        }
        return hour;
    }

    private void pass() {
        for (Letter l : letters) {
            if (l.where != 1 || l.comesIn != hour) continue;
            l.where = 0;
            l.town = l.comesTo;
        }
        for (Letter l : letters) {
            if (l.where == 0 && l.town == l.goal) atTheDoor(l);
        }
        Map<String, List<Letter>> runs = new HashMap<>();
        for (Letter l : letters) {
            if (l.where != 0 || l.town == l.goal) continue;
            int w = next(l.town, l.goal, hour);
            if (w == NONE || !ways.get(w).leavesIn(hour)) continue;
            l.where = 1;
            l.comesTo = ways.get(w).other(l.town);
            l.comesIn = hour + ways.get(w).hours;
            runs.computeIfAbsent(w + " " + l.town, k -> new ArrayList<>()).add(l);
        }
        runs.forEach((run, carried) -> part(ways.get(Integer.parseInt(run.split(" ")[0])).cost, carried));
        hour++;
    }

    private void atTheDoor(Letter l) {
        if (l.refused == 1) {
            l.where = 3;
            l.ended = hour;
            return;
        }
        int owes = owes(l);
        boolean marked = l.kind == 0 && l.with > 0 && (codes[l.from][l.to] >> l.with & 1) == 1;
        if (owes == 0 || owes <= Math.min(l.worth, purses[l.to]) && !marked) {
            l.where = 2;
            l.ended = hour;
            pay(l, l.to, owes);
        } else {
            l.refused = 1;
            l.goal = l.from;
        }
    }

    private int owes(Letter l) {
        int act = told(l.to, hour, hour / 24);
        if (l.kind == 1 || act == NONE) return 0;
        if (l.kind == 2) {
            List<Letter> lesser = letters.subList(0, letters.indexOf(l));
            if (lesser.stream().filter(o -> o.isFranked(l.with, l.written / 168)).count() < acts.get(act).free()) return 0;
        }
        return Math.max(0, postageOf(l, act, false));
    }

    private void part(int cost, List<Letter> carried) {
        int all = carried.stream().mapToInt(this::weight).sum();
        int rest = cost;
        for (Letter l : carried) {
            l.borne += cost * weight(l) / all;
            rest -= cost * weight(l) / all;
        }
        List<Letter> byCut = new ArrayList<>(carried);
        byCut.sort((one, other) -> cost * weight(other) % all - cost * weight(one) % all);
        byCut.subList(0, rest).forEach(l -> l.borne++);
        allRuns += cost;
    }

    private int weight(Letter l) {
        return new int[] {1, l.drams, l.sheets}[key];
    }

    public int at(int letter, int what) {
        if (!in(letter, 0, letters.size() - 1)) return UNKNOWN;
        if (!in(what, 0, 6)) return OUTSIDE;
        Letter l = letters.get(letter);
        return new int[] {l.where, l.town, l.refused, l.paid, l.borne, l.written, l.ended}[what];
    }

    public int purse(int town, int v) {
        if (!towns(town)) return UNKNOWN;
        if (!in(v, 0, 30000)) return OUTSIDE;
        int was = purses[town];
        purses[town] = v;
        return was;
    }

    public int code(int from, int to, int marks) {
        if (!towns(from, to) || from == to) return UNKNOWN;
        if (!in(marks, 0, 255) || marks % 2 == 1) return OUTSIDE;
        int was = codes[from][to];
        codes[from][to] = marks;
        return was;
    }

    public int set(int what, int v) {
        int[][] bounds = {{0, 2}, {0, 200}, {0, 100000}, {0, 99}, {0, 9}, {-1000000, 1000000}, {-1, 99}};
        if (!in(what, 0, 6) || !in(v, bounds[what][0], bounds[what][1])) return OUTSIDE;
        switch (what) {
            case 0 -> key = v;
            case 1 -> wash = v;
            case 2 -> fixed = v;
            case 3 -> each = v;
            case 4 -> grow = v;
            case 5 -> limit = v;
            default -> smugglers = v;
        }
        return 1;
    }

    // ---- members, stamps

    public int met(int member, int town, int hour) {
        if (!in(member, 0, 5) || !towns(town)) return UNKNOWN;
        if (!in(hour, 0, 9000)) return OUTSIDE;
        if (meetings.size() == 12) return FULL;
        meetings.add(new Meeting(member, town, hour));
        return meetings.size();
    }

    public int cannot(int letter) {
        if (!in(letter, 0, letters.size() - 1)) return UNKNOWN;
        Letter l = letters.get(letter);
        if (l.kind != 2) return NOT;
        return meetings.stream().anyMatch(m -> m.member == l.with && !couldBe(l, m)) ? 1 : 0;
    }

    private boolean couldBe(Letter l, Meeting m) {
        if (m.hour <= l.written) return isDueBy(m.town, l.from, m.hour, l.written);
        return isDueBy(l.from, m.town, l.written, m.hour);
    }

    private boolean isDueBy(int from, int to, int hour, int by) {
        int due = soonest(from, hour)[to];
        return due != NONE && due <= by;
    }

    public int more(int member, int week) {
        if (!in(member, 0, 5)) return UNKNOWN;
        if (!in(week, 0, 60)) return OUTSIDE;
        int act = told(0, hour, 7 * week);
        int free = act == NONE ? 0 : acts.get(act).free();
        return Math.max(0, (int) letters.stream().filter(l -> l.isFranked(member, week)).count() - free);
    }

    public int alike(int stamp) {
        if (!in(stamp, 0, 2399)) return OUTSIDE;
        int bits = 0;
        for (int i = 0; i < letters.size(); i++) {
            if (letters.get(i).kind == 1 && letters.get(i).with == stamp) bits |= 1 << i;
        }
        return bits;
    }

    /**
     * Washing goes on from letter to letter, so that what is washed from one is also in time behind those ahead of it. Then there are as
     * few rows as the most letters of which none can be washed from another one (Dilworth).
     */
    public int forged(int stamp) {
        if (!in(stamp, 0, 2399)) return OUTSIDE;
        List<Letter> with = letters.stream().filter(l -> l.kind == 1 && l.with == stamp).toList();
        boolean[][] washed = new boolean[with.size()][with.size()];
        for (int i = 0; i < with.size(); i++) {
            for (int j = 0; j < with.size(); j++) {
                Letter one = with.get(i);
                Letter other = with.get(j);
                washed[i][j] = one.where == 2 && isDueBy(one.to, other.from, one.ended + wash, other.written);
            }
        }
        return Math.max(0, mostApart(washed, 0, new ArrayList<>(), 0) - 1);
    }

    private static int mostApart(boolean[][] washed, int next, List<Integer> apart, int best) {
        if (next == washed.length) return Math.max(best, apart.size());
        if (apart.size() + washed.length - next <= best) return best;
        int most = best;
        if (apart.stream().noneMatch(i -> washed[i][next] || washed[next][i])) {
            apart.add(next);
            most = mostApart(washed, next + 1, apart, most);
            apart.remove(apart.size() - 1);
        }
        return mostApart(washed, next + 1, apart, most);
    }

    // ---- doors

    public int doors(int n) {
        if (!in(n, 1, 12)) return OUTSIDE;
        int had = doors;
        doors = n;
        paths.clear();
        return had;
    }

    public int path(int a, int b, int length) {
        if (!in(a, 0, doors - 1) || !in(b, 0, doors - 1)) return UNKNOWN;
        if (a == b || !in(length, 1, 30)) return OUTSIDE;
        if (paths.size() == 24) return FULL;
        paths.add(new Path(a, b, length));
        return paths.size();
    }

    /** By lengths of 0, 1 and so on: what can be reached in just so many steps. */
    private int[] lengths(int from) {
        int[] there = new int[doors];
        Arrays.fill(there, NONE);
        there[from] = 0;
        for (int length = 0; length <= 12 * 30; length++) {
            for (Path p : paths) {
                if (there[p.a] == length && (there[p.b] == NONE || there[p.b] > length + p.length)) there[p.b] = length + p.length;
                if (there[p.b] == length && (there[p.a] == NONE || there[p.a] > length + p.length)) there[p.a] = length + p.length;
            }
        }
        return there;
    }

    public int boxes(int reach, int what) {
        if (!in(reach, 0, 200) || !in(what, 0, 1)) return OUTSIDE;
        int[] near = new int[doors];
        for (int i = 0; i < doors; i++) {
            int[] there = lengths(i);
            for (int j = 0; j < doors; j++) {
                if (there[j] != NONE && there[j] <= reach) near[j] |= 1 << i;
            }
        }
        for (int few = 1; ; few++) {
            for (int set = 0; set < 1 << doors; set++) {
                int boxes = set;
                if (Integer.bitCount(set) == few && Arrays.stream(near).allMatch(n -> (n & boxes) != 0)) return what == 0 ? few : set;
            }
        }
    }

    public int walk(int set) {
        if (!in(set, 0, (1 << doors) - 1)) return OUTSIDE;
        int[][] far = new int[doors][];
        for (int i = 0; i < doors; i++) {
            far[i] = lengths(i);
            if ((set >> i & 1) != 0 && lengths(0)[i] == NONE) return NONE;
        }
        return walk(far, 0, set & ~1, new HashMap<>());
    }

    private static int walk(int[][] far, int at, int left, Map<Integer, Integer> known) {
        if (left == 0) return far[at][0];
        Integer before = known.get(left * 12 + at);
        if (before != null) return before;
        int least = Integer.MAX_VALUE;
        for (int to = 0; to < far.length; to++) {
            if ((left >> to & 1) != 0) least = Math.min(least, far[at][to] + walk(far, to, left & ~(1 << to), known));
        }
        known.put(left * 12 + at, least);
        return least;
    }

    // ---- prices

    public int want(int from, int to, int people, int worth, int times) {
        if (!towns(from, to) || from == to) return UNKNOWN;
        if (!in(people, 1, 500) || !in(worth, 0, 99) || !in(times, 0, 60)) return OUTSIDE;
        if (wants.size() == 8) return FULL;
        wants.add(new Want(from, to, people, worth, times));
        return wants.size() - 1;
    }

    private boolean byThePost(Want w, int price) {
        return price <= w.worth && !(smugglers != NONE && price > smugglers);
    }

    private boolean bySmugglers(Want w, int price) {
        return !byThePost(w, price) && smugglers != NONE && smugglers <= w.worth;
    }

    /** What so many people write in a year at a price, by the post or by smugglers. */
    private int letters(List<Want> wants, int price, boolean post) {
        return wants.stream().filter(w -> post ? byThePost(w, price) : bySmugglers(w, price)).mapToInt(w -> w.people * w.times).sum();
    }

    private int loss(List<Want> wants, int price) {
        int written = letters(wants, price, true);
        return fixed + up(each * written, 6) - price * written;
    }

    private Want behind(Want w, int price) {
        int times = w.times;
        if (byThePost(w, price) && price <= w.worth / 2) times = Math.min(60, times + grow);
        if (!byThePost(w, price) && !bySmugglers(w, price)) times = Math.max(0, times - 1);
        return new Want(w.from, w.to, w.people, w.worth, times);
    }

    public int year(int price, int what) {
        if (!in(price, 0, 99) || !in(what, 0, 3)) return LEAST_INT;
        int written = letters(wants, price, true);
        return new int[] {written, letters(wants, price, false), written * price, loss(wants, price)}[what];
    }

    public int even() {
        for (int price = 0; price < 100; price++) {
            if (loss(wants, price) <= 0) return price;
        }
        return NONE;
    }

    public int under(int act, int what) {
        if (!in(act, 0, acts.size() - 1)) return UNKNOWN;
        if (!in(what, 0, 1)) return OUTSIDE;
        int sum = 0;
        for (Want w : wants) {
            int price = far(w.from, w.to) == NONE ? NONE : charge(acts.get(act), far(w.from, w.to), 1, 8, false);
            if (price != NONE) sum += letters(List.of(w), price, true) * (what == 0 ? 1 : price);
        }
        return sum;
    }

    public int price(int v) {
        if (!in(v, 0, 99)) return OUTSIDE;
        if (prices.size() == 6) return FULL;
        prices.add(v);
        return prices.size();
    }

    private Plan lived(List<Integer> row) {
        List<Want> now = wants;
        int written = 0;
        int debt = 0;
        int broke = NONE;
        for (int year = 0; year < row.size(); year++) {
            int price = row.get(year);
            written += letters(now, price, true);
            debt += loss(now, price);
            if (debt > limit && broke == NONE) broke = year;
            now = now.stream().map(w -> behind(w, price)).toList();
        }
        return new Plan(row, written, debt, broke);
    }

    /** All plans, good or not, by numbers; null if none is good. */
    private Plan best(int n) {
        Plan best = null;
        for (int number = 0; number < Math.round(Math.pow(prices.size(), n)); number++) {
            Integer[] row = new Integer[n];
            for (int i = n - 1, rest = number; i >= 0; i--, rest /= prices.size()) {
                row[i] = prices.get(rest % prices.size());
            }
            Plan p = lived(List.of(row));
            if (p.broke != NONE) continue;
            if (best == null || p.letters > best.letters || p.letters == best.letters && p.debt < best.debt) best = p;
        }
        return best;
    }

    public int plan(int n, int what) {
        if (!in(n, 1, 5) || !in(what, 0, 1)) return LEAST_INT;
        Plan best = best(n);
        if (best == null) return LEAST_INT;
        return what == 0 ? best.letters : best.debt;
    }

    public int planned(int n, int i) {
        if (!in(n, 1, 5) || !in(i, 0, n - 1)) return OUTSIDE;
        Plan best = best(n);
        return best == null ? NONE : best.prices.get(i);
    }

    public int judge(long row, int n, int what) {
        if (!in(n, 1, 5) || !in(what, 0, 2)) return LEAST_INT;
        List<Integer> told = new ArrayList<>();
        for (int i = 0; i < n; i++) {
            told.add((int) (row >> 7 * i & 127));
        }
        if (told.stream().anyMatch(p -> p > 99)) return LEAST_INT;
        Plan p = lived(told);
        return new int[] {p.letters, p.debt, p.broke}[what];
    }

    public int count(int what) {
        if (!in(what, 0, 11)) return OUTSIDE;
        int refused = (int) letters.stream().filter(l -> l.refused == 1).count();
        int given = (int) letters.stream().filter(l -> l.where == 2).count();
        return new int[] {hour, ways.size(), acts.size(), letters.size(), text.length(), allPaid, allRuns, refused, given, wants.size(),
            prices.size(), paths.size()}[what];
    }
}
