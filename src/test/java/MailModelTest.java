import java.util.ArrayList;
import java.util.List;

/** Promises 14 to 16: random posts, held hour by hour against a plain model that asks what next, act, far and postage tell. */
public final class MailModelTest {
    private static final Check check = new Check("MailModelTest");
    private static final String[] ACTS = {"to 20 pay 1; to 60 pay 3; over 15 pay 2; free 2", "over 10 pay 1; weigh 16; free 1; least 2; ahead 1",
        "to 40 pay 4; free 3; free 0", "to 200 pay 2; ahead 3; least 1", "free 99; over 100 pay 9"};
    private static final int[] FREE = {2, 1, 0, 0, 99};

    /** A letter as the model has it, fields as at() tells them, and what it was written with. */
    private static final class Model {
        int from, to, sheets, drams, worth, kind, with;
        int state, town, refused, paid, borne, written, ended = -1;
        int goal, comesTo, comesIn, run = -1;

        int tell(int what) {
            return new int[] {state, town, refused, paid, borne, written, ended}[what];
        }
    }

    private final PennyPost x = new PennyPost();
    private final Check.Dice dice;
    private final List<int[]> ways = new ArrayList<>();
    private final List<Integer> acts = new ArrayList<>();
    private final List<Model> letters = new ArrayList<>();
    private final int[] purses = new int[10];
    private final int[][] codes = new int[10][10];
    private int key;
    private int hour;

    private MailModelTest(int seed) {
        dice = new Check.Dice(seed);
    }

    public static void main(String[] args) {
        for (int run = 0; run < 150; run++) {
            new MailModelTest(run).play(run);
        }
        againstSingleHours();
        check.end();
    }

    private void play(int run) {
        java.util.Arrays.fill(purses, 200);
        int towns = dice.from(2, 6);
        addAct();
        for (int turn = 0; turn < 60 && hour < 400; turn++) {
            if (dice.below(4) == 0) addWay(towns);
            if (dice.below(12) == 0) addAct();
            if (dice.below(6) == 0) addCode(towns);
            for (int i = dice.below(3); i > 0; i--) {
                addLetter(towns);
            }
            int n = dice.from(1, 12);
            for (int i = 0; i < n; i++) {
                pass();
            }
            check.promise(15);
            check.due("run " + run + ": hours(" + n + ")", hour, x.hours(n));
            compare(run);
        }
    }

    private void addWay(int towns) {
        int every = dice.from(1, 9);
        int[] way = {dice.below(towns), dice.below(towns), dice.from(1, 60), dice.from(1, 8), every, dice.below(every), dice.below(120)};
        if (x.way(way[0], way[1], way[2], way[3], way[4], way[5], way[6]) >= 0) ways.add(way);
    }

    private void addAct() {
        if (acts.size() == 5) return;
        int text = dice.below(ACTS.length);
        check.promise(9);
        check.due("act", acts.size(), Check.act(x, ACTS[text], dice.below(10)));
        acts.add(text);
    }

    private void addCode(int towns) {
        int from = dice.below(towns);
        int to = dice.below(towns);
        int marks = dice.below(128) * 2;
        if (x.code(from, to, marks) >= 0) codes[from][to] = marks;
        key = dice.below(3);
        x.set(0, key);
        if (dice.below(4) == 0) {
            purses[to] = dice.below(40);
            x.purse(to, purses[to]);
        }
    }

    private void addLetter(int towns) {
        Model m = new Model();
        m.from = dice.below(towns);
        m.to = dice.below(towns);
        m.sheets = dice.from(1, 9);
        m.drams = dice.from(1, 64);
        m.worth = dice.below(dice.below(2) == 0 ? 10 : 60);
        m.kind = dice.below(3);
        m.with = dice.below(6);
        if (m.from == m.to || letters.size() == 24) return;
        m.written = hour;
        m.town = m.from;
        m.goal = m.to;
        int want = letters.size();
        if (m.kind == 1) {
            m.paid = charge(m.from, m, true);
            if (m.paid < 0 || m.paid > purses[m.from]) want = -4;
        }
        check.promise(14);
        check.due("letter", want, x.letter(m.from, m.to, m.sheets, m.drams, m.worth, m.kind, m.with));
        if (want < 0) return;
        purses[m.from] -= m.paid;
        letters.add(m);
    }

    private int charge(int office, Model m, boolean ahead) {
        int act = x.act(office, hour, hour / 24);
        int miles = x.far(m.from, m.to);
        return act < 0 || miles < 0 ? -1 : x.postage(act, miles, m.sheets, m.drams, ahead);
    }

    private void pass() {
        for (Model m : letters) {
            if (m.state == 1 && m.comesIn == hour) {
                m.state = 0;
                m.town = m.comesTo;
            }
        }
        for (Model m : letters) {
            if (m.state == 0 && m.town == m.goal) offer(m);
        }
        for (Model m : letters) {
            if (m.state == 0) leave(m);
        }
        for (int run = 0; run < 2 * ways.size(); run++) {
            part(run);
        }
        hour++;
    }

    private void offer(Model m) {
        m.ended = hour;
        m.state = 3;
        if (m.refused == 1) return;
        int owes = isFree(m) ? 0 : Math.max(0, charge(m.to, m, false));
        boolean coded = m.kind == 0 && m.with > 0 && (codes[m.from][m.to] & 1 << m.with) != 0;
        if (owes == 0 || owes <= m.worth && owes <= purses[m.to] && !coded) {
            m.state = 2;
            m.paid += owes;
            purses[m.to] -= owes;
        } else {
            m.state = 0;
            m.ended = -1;
            m.refused = 1;
            m.goal = m.from;
        }
    }

    private boolean isFree(Model m) {
        if (m.kind != 2) return m.kind == 1;
        int act = x.act(m.to, hour, hour / 24);
        int left = act < 0 ? 0 : FREE[acts.get(act)];
        for (Model o : letters) {
            if (o == m) break;
            if (o.kind == 2 && o.with == m.with && o.written / 168 == m.written / 168) left--;
        }
        return left > 0;
    }

    private void leave(Model m) {
        int w = x.next(m.town, m.goal, hour);
        if (w < 0 || hour % ways.get(w)[4] != ways.get(w)[5]) return;
        boolean fromFirst = ways.get(w)[0] == m.town;
        m.run = 2 * w + (fromFirst ? 0 : 1);
        m.comesTo = ways.get(w)[fromFirst ? 1 : 0];
        m.comesIn = hour + ways.get(w)[3];
        m.state = 1;
    }

    /** Gives the whole pence, then sorts by what was cut off. */
    private void part(int run) {
        List<Model> there = new ArrayList<>();
        int all = 0;
        for (Model m : letters) {
            if (m.run != run) continue;
            there.add(m);
            all += weight(m);
            m.run = -1;
        }
        int sum = all;
        int cost = ways.get(run / 2)[6];
        int rest = cost;
        for (Model m : there) {
            m.borne += cost * weight(m) / all;
            rest -= cost * weight(m) / all;
        }
        there.sort((a, b) -> cost * weight(b) % sum - cost * weight(a) % sum);
        for (int i = 0; i < rest && i < there.size(); i++) {
            there.get(i).borne++;
        }
    }

    private int weight(Model m) {
        return key == 0 ? 1 : key == 1 ? m.drams : m.sheets;
    }

    private void compare(int run) {
        check.promise(16);
        for (int i = 0; i < letters.size(); i++) {
            for (int what = 0; what < 7; what++) {
                check.due("run " + run + ", hour " + hour + ": at(" + i + ", " + what + ")", letters.get(i).tell(what), x.at(i, what));
            }
        }
        check.promise(17);
        for (int town = 0; town < 10; town++) {
            check.due("run " + run + ", hour " + hour + ": purse of " + town, purses[town], x.purse(town, purses[town]));
        }
    }

    /** Many hours at once are as many hours one by one. */
    private static void againstSingleHours() {
        check.promise(15);
        PennyPost all = new PennyPost();
        PennyPost single = new PennyPost();
        for (PennyPost x : new PennyPost[] {all, single}) {
            x.way(0, 1, 10, 3, 5, 2, 31);
            x.way(1, 2, 10, 2, 4, 1, 17);
            Check.act(x, ACTS[0], 0);
            for (int i = 0; i < 20; i++) {
                x.letter(i % 3, (i + 1 + i / 10) % 3, i % 4 + 1, i + 1, i, i % 3, i % 5);
            }
        }
        all.hours(37);
        for (int i = 0; i < 37; i++) {
            single.hours(1);
        }
        for (int i = 0; i < 20; i++) {
            for (int what = 0; what < 7; what++) {
                check.due("at(" + i + ", " + what + ")", single.at(i, what), all.at(i, what));
            }
        }
    }
}
