import java.util.ArrayList;
import java.util.List;

/** Promises 20 to 24: members who were met, letters beyond free ones, stamps that came again. */
public final class MembersTest {
    private static final Check check = new Check("MembersTest");

    public static void main(String[] args) {
        meeting();
        cannots();
        mores();
        alikes();
        forgeries();
        againstRows();
        check.end();
    }

    private static void meeting() {
        check.promise(20);
        PennyPost x = new PennyPost();
        check.due("no member", -2, x.met(-1, 0, 0));
        check.due("no member", -2, x.met(6, 0, -1));
        check.due("no town", -2, x.met(0, 10, 0));
        check.due("no town", -2, x.met(0, -1, 9001));
        check.due("hour", -3, x.met(0, 0, -1));
        check.due("hour", -3, x.met(0, 0, 9001));
        for (int i = 1; i <= 12; i++) {
            check.due("met " + i, i, x.met(i % 6, i % 10, i == 12 ? 9000 : 0));
        }
        check.due("full", -5, x.met(0, 0, 0));
        check.due("hour ahead of full", -3, x.met(0, 0, 9001));
        check.due("member ahead of full", -2, x.met(6, 0, 0));
    }

    /** Whether a letter that member 3 franked in town 0 in hour 10 cannot be the member's; town 1 is 4 hours off, town 2 nowhere. */
    private static int cannot(int member, int town, int hour) {
        PennyPost x = new PennyPost();
        x.way(0, 1, 1, 4, 1, 0, 0);
        x.hours(10);
        x.letter(0, 2, 1, 1, 0, 2, 3);
        x.met(member, town, hour);
        return x.cannot(0);
    }

    private static void cannots() {
        check.promise(21);
        check.due("there in time", 0, cannot(3, 1, 6));
        check.due("an hour too late", 1, cannot(3, 1, 7));
        check.due("elsewhere in that hour", 1, cannot(3, 1, 10));
        check.due("in that town in that hour", 0, cannot(3, 0, 10));
        check.due("away too soon", 1, cannot(3, 1, 13));
        check.due("away in time", 0, cannot(3, 1, 14));
        check.due("from nowhere", 1, cannot(3, 2, 0));
        check.due("to nowhere", 1, cannot(3, 2, 9000));
        check.due("another member", 0, cannot(2, 2, 10));
        PennyPost x = new PennyPost();
        x.way(0, 1, 1, 4, 6, 5, 0);
        x.letter(0, 1, 1, 1, 0, 2, 3);
        x.letter(0, 1, 1, 1, 0, 0, 3);
        check.due("never met", 0, x.cannot(0));
        check.due("another kind", -4, x.cannot(1));
        check.due("no letter", -2, x.cannot(2));
        check.due("no letter", -2, x.cannot(-1));
        x.met(3, 1, 9);
        check.due("the way leaves in hour 5", 0, x.cannot(0));
        x.met(3, 1, 8);
        check.due("one of two is enough", 1, x.cannot(0));
        check.promise(14);
        Check.act(x, "over 1 pay 1", 0);
        x.letter(0, 1, 1, 1, 0, 1, 3);
        check.promise(21);
        check.due("a paid one", -4, x.cannot(2));
    }

    private static void mores() {
        check.promise(22);
        PennyPost x = new PennyPost();
        for (int i = 0; i < 3; i++) {
            x.letter(0, 1, 1, 1, 0, 2, 4);
        }
        x.letter(0, 1, 1, 1, 0, 2, 5);
        x.letter(0, 1, 1, 1, 0, 0, 4);
        check.due("no act: none free", 3, x.more(4, 0));
        check.due("another member", 1, x.more(5, 0));
        check.due("another week", 0, x.more(4, 1));
        Check.act(x, "ahead 9", 0);
        check.due("an act without free letters", 3, x.more(4, 0));
        Check.act(x, "free 1", 0);
        Check.act(x, "free 9", 1);
        Check.act(x, "free 5; free 0", 7);
        check.due("by the act of the first day", 2, x.more(4, 0));
        check.due("just none", 0, x.more(5, 0));
        check.due("not below 0", 0, x.more(3, 0));
        x.hours(60);
        x.hours(60);
        x.hours(47);
        x.letter(0, 1, 1, 1, 0, 2, 4);
        check.due("the last hour of the week", 3, x.more(4, 0));
        x.hours(1);
        x.letter(0, 1, 1, 1, 0, 2, 4);
        check.due("the first hour of the next one", 3, x.more(4, 0));
        check.due("the first hour of the next one, by the last free clause", 1, x.more(4, 1));
        Check.act(x, "free 2", 8);
        check.due("day 8 is not the first day of week 1", 1, x.more(4, 1));
        PennyPost y = new PennyPost();
        y.letter(0, 1, 1, 1, 0, 2, 4);
        y.hours(1);
        Check.act(y, "free 1", 0);
        check.due("as town 0 tells now", 0, y.more(4, 0));
        check.due("no member", -2, x.more(6, 0));
        check.due("no member", -2, x.more(-1, 61));
        check.due("week", -3, x.more(0, -1));
        check.due("week", -3, x.more(0, 61));
        check.due("week 60", 0, x.more(0, 60));
    }

    /** Towns 0, 1, 2 in a row, an hour apart in every hour, and an act by which nothing is paid. */
    private static PennyPost row() {
        PennyPost x = new PennyPost();
        x.way(0, 1, 1, 1, 1, 0, 0);
        x.way(1, 2, 1, 1, 1, 0, 0);
        Check.act(x, "over 1 pay 0", 0);
        x.hours(10);
        return x;
    }

    private static void alikes() {
        check.promise(23);
        PennyPost x = row();
        check.due("none", 0, x.alike(0));
        x.letter(0, 1, 1, 1, 0, 1, 5);
        x.letter(0, 1, 1, 1, 0, 0, 5);
        x.letter(0, 1, 1, 1, 0, 2, 5);
        x.letter(2, 1, 1, 1, 0, 1, 5);
        x.letter(2, 1, 1, 1, 0, 1, 2399);
        check.due("bits", 9, x.alike(5));
        check.due("another", 16, x.alike(2399));
        check.due("another", 0, x.alike(4));
        check.due("outside", -3, x.alike(-1));
        check.due("outside", -3, x.alike(2400));
    }

    private static void forgeries() {
        check.promise(24);
        PennyPost x = row();
        check.due("none", 0, x.forged(5));
        x.set(1, 3);
        x.letter(0, 1, 1, 1, 0, 1, 5);
        check.due("one", 0, x.forged(5));
        x.hours(5);
        x.letter(2, 0, 1, 1, 0, 1, 5);
        check.due("given in hour 11, washed by 14, there in 15", 0, x.forged(5));
        x.set(1, 4);
        check.due("an hour too late", 1, x.forged(5));
        x.set(1, 3);
        x.letter(2, 1, 1, 1, 0, 1, 5);
        check.due("a stamp is washed to one letter", 1, x.forged(5));
        x.set(1, 4);
        check.due("all three", 2, x.forged(5));
        x.hours(10);
        x.letter(0, 1, 1, 1, 0, 1, 5);
        check.due("the last from one of them", 2, x.forged(5));
        x.letter(0, 1, 1, 1, 0, 1, 6);
        check.due("another stamp", 2, x.forged(5));
        check.due("another stamp", 0, x.forged(6));
        check.due("outside", -3, x.forged(-1));
        check.due("outside", -3, x.forged(2400));
        PennyPost y = row();
        y.set(1, 0);
        y.letter(0, 1, 1, 1, 0, 1, 0);
        y.hours(1);
        y.letter(1, 2, 1, 1, 0, 1, 0);
        check.due("it is not given yet", 1, y.forged(0));
        y.hours(2);
        check.due("given in the hour in which the other was written", 0, y.forged(0));
        PennyPost z = row();
        z.letter(0, 1, 1, 1, 0, 1, 0);
        z.hours(48);
        z.letter(1, 2, 1, 1, 0, 1, 0);
        check.due("an hour below 48 at first", 1, z.forged(0));
        z.hours(1);
        z.letter(1, 2, 1, 1, 0, 1, 0);
        check.due("48 hours at first", 1, z.forged(0));
    }

    /** Holds forged() against all ways of putting the letters in rows. */
    private static void againstRows() {
        check.promise(24);
        Check.Dice dice = new Check.Dice(24);
        for (int run = 0; run < 60; run++) {
            PennyPost x = new PennyPost();
            for (int i = 0; i < 6; i++) {
                x.way(dice.below(5), dice.below(5), 1, dice.from(1, 6), dice.from(1, 4), 0, 0);
            }
            Check.act(x, "over 9 pay 1", 0);
            x.hours(30);
            x.set(1, dice.below(12));
            List<int[]> letters = new ArrayList<>();
            for (int i = 0; i < 30 && letters.size() < 9; i++) {
                int from = dice.below(5);
                int to = dice.below(5);
                if (x.letter(from, to, 1, 1, 0, 1, 77) >= 0) letters.add(new int[] {from, to});
                if (dice.below(3) > 0) x.hours(dice.from(1, 9));
            }
            for (int wash = 0; wash < 25; wash += 3) {
                x.set(1, wash);
                int rows = fewestRows(x, letters, wash, 0, new boolean[letters.size()]);
                check.due("run " + run + ", wash " + wash, letters.isEmpty() ? 0 : rows - 1, x.forged(77));
            }
        }
    }

    private static int fewestRows(PennyPost x, List<int[]> letters, int wash, int next, boolean[] used) {
        if (next == letters.size()) return 0;
        int fewest = 1 + fewestRows(x, letters, wash, next + 1, used);
        for (int i = 0; i < letters.size(); i++) {
            if (used[i] || i == next || x.at(i, 0) != 2) continue;
            int there = x.due(letters.get(i)[1], letters.get(next)[0], x.at(i, 6) + wash);
            if (there == -1 || there > x.at(next, 5)) continue;
            used[i] = true;
            fewest = Math.min(fewest, fewestRows(x, letters, wash, next + 1, used));
            used[i] = false;
        }
        return fewest;
    }
}
