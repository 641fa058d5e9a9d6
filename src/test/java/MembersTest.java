import java.util.ArrayList;
import java.util.Arrays;
import java.util.List;

/** Promises 20 to 24: members who were met, letters beyond free ones, stamps that came again. */
public final class MembersTest {
    private static final Check check = new Check("MembersTest");

    public static void main(String[] args) {
        meeting();
        cannots();
        meetings();
        mores();
        alikes();
        forgeries();
        washBounds();
        allAlike();
        againstRows();
        againstPairs();
        check.end();
    }

    private static void meeting() {
        check.promise(20);
        PennyPost x = new PennyPost();
        check.due("no member", -2, x.met(-1, 0, 0));
        check.due("no member", -2, x.met(6, 0, -1));
        check.due("no town", -2, x.met(0, 10, 0));
        check.due("no town", -2, x.met(0, -1, 9001));
        check.due("hour", -3, x.met(0, 0, -1));
        check.due("hour", -3, x.met(0, 0, 9001));
        for (int i = 1; i <= 12; i++) {
            check.due("met " + i, i, x.met(i % 6, i % 10, i == 12 ? 9000 : 0));
        }
        check.due("full", -5, x.met(0, 0, 0));
        check.due("hour ahead of full", -3, x.met(0, 0, 9001));
        check.due("member ahead of full", -2, x.met(6, 0, 0));
    }

    /** All that members were met counts, in any order. */
    private static void meetings() {
        check.promise(21);
        for (int place = 0; place < 12; place++) {
            PennyPost x = new PennyPost();
            x.way(0, 1, 1, 4, 1, 0, 0);
            x.hours(10);
            x.letter(0, 2, 1, 1, 0, 2, 3);
            for (int i = 0; i < 12; i++) {
                check.due("none so far", 0, x.cannot(0));
                x.met(i == place ? 3 : i % 3, i == place ? 1 : 2, 8);
                if (i == place) break;
            }
            check.due("the one of its member, " + place + " told ahead of it", 1, x.cannot(0));
        }
        PennyPost x = new PennyPost();
        x.way(0, 1, 1, 4, 1, 0, 0);
        x.letter(0, 1, 1, 1, 0, 2, 3);
        for (int i = 0; i < 12; i++) {
            x.met(3, 1, 4 + i);
        }
        check.due("twelve that fit", 0, x.cannot(0));
        check.promise(20);
        check.due("no thirteenth", -5, x.met(3, 2, 0));
        check.promise(21);
        check.due("nor is it told", 0, x.cannot(0));
        for (int i = 1; i < 24; i++) {
            x.letter(0, 1, 1, 1, 0, 2, 4);
        }
        check.due("the last letter, its member never met", 0, x.cannot(23));
        check.due("no letter", -2, x.cannot(24));
        PennyPost y = new PennyPost();
        y.hours(10);
        y.letter(0, 1, 1, 1, 0, 2, 3);
        y.met(3, 1, 0);
        check.due("no way", 1, y.cannot(0));
        y.way(0, 1, 1, 10, 1, 0, 0);
        check.due("by the ways there are now", 0, y.cannot(0));
        y.met(3, 0, 9000);
        check.due("in the same town for ever", 0, y.cannot(0));
    }

    /** Whether a letter that member 3 franked in town 0 in hour 10 cannot be the member's; town 1 is 4 hours off, town 2 nowhere. */
    private static int cannot(int member, int town, int hour) {
        PennyPost x = new PennyPost();
        x.way(0, 1, 1, 4, 1, 0, 0);
        x.hours(10);
        x.letter(0, 2, 1, 1, 0, 2, 3);
        x.met(member, town, hour);
        return x.cannot(0);
    }

    private static void cannots() {
        check.promise(21);
        check.due("there in time", 0, cannot(3, 1, 6));
        check.due("there with hours to spare", 0, cannot(3, 1, 0));
        check.due("there with an hour to spare", 0, cannot(3, 1, 5));
        check.due("away with an hour to spare", 0, cannot(3, 1, 15));
        check.due("away with hours to spare", 0, cannot(3, 1, 9000));
        check.due("an hour too late", 1, cannot(3, 1, 7));
        check.due("elsewhere in that hour", 1, cannot(3, 1, 10));
        check.due("in that town in that hour", 0, cannot(3, 0, 10));
        check.due("away too soon", 1, cannot(3, 1, 13));
        check.due("away in time", 0, cannot(3, 1, 14));
        check.due("from nowhere", 1, cannot(3, 2, 0));
        check.due("to nowhere", 1, cannot(3, 2, 9000));
        check.due("another member", 0, cannot(2, 2, 10));
        PennyPost x = new PennyPost();
        x.way(0, 1, 1, 4, 6, 5, 0);
        x.letter(0, 1, 1, 1, 0, 2, 3);
        x.letter(0, 1, 1, 1, 0, 0, 3);
        check.due("never met", 0, x.cannot(0));
        check.due("another kind", -4, x.cannot(1));
        check.due("no letter", -2, x.cannot(2));
        check.due("no letter", -2, x.cannot(-1));
        x.met(3, 1, 9);
        check.due("the way leaves in hour 5", 0, x.cannot(0));
        x.met(3, 1, 8);
        check.due("one of two is enough", 1, x.cannot(0));
        check.promise(14);
        Check.act(x, "over 1 pay 1", 0);
        x.letter(0, 1, 1, 1, 0, 1, 3);
        check.promise(21);
        check.due("a paid one", -4, x.cannot(2));
    }

    private static void mores() {
        check.promise(22);
        PennyPost x = new PennyPost();
        for (int i = 0; i < 3; i++) {
            x.letter(0, 1, 1, 1, 0, 2, 4);
        }
        x.letter(0, 1, 1, 1, 0, 2, 5);
        x.letter(0, 1, 1, 1, 0, 0, 4);
        check.due("no act: none free", 3, x.more(4, 0));
        check.due("another member", 1, x.more(5, 0));
        check.due("another week", 0, x.more(4, 1));
        Check.act(x, "ahead 9", 0);
        check.due("an act without free letters", 3, x.more(4, 0));
        Check.act(x, "free 1", 0);
        Check.act(x, "free 9", 1);
        Check.act(x, "free 5; free 0", 7);
        check.due("by the act of the first day", 2, x.more(4, 0));
        check.due("just none", 0, x.more(5, 0));
        check.due("not below 0", 0, x.more(3, 0));
        x.hours(60);
        x.hours(60);
        x.hours(47);
        x.letter(0, 1, 1, 1, 0, 2, 4);
        check.due("the last hour of the week", 3, x.more(4, 0));
        x.hours(1);
        x.letter(0, 1, 1, 1, 0, 2, 4);
        check.due("the first hour of the next one", 3, x.more(4, 0));
        check.due("the first hour of the next one, by the last free clause", 1, x.more(4, 1));
        Check.act(x, "free 2", 8);
        check.due("day 8 is not the first day of week 1", 1, x.more(4, 1));
        PennyPost y = new PennyPost();
        y.letter(0, 1, 1, 1, 0, 2, 4);
        y.hours(1);
        Check.act(y, "free 1", 0);
        check.due("as town 0 tells now", 0, y.more(4, 0));
        check.due("no member", -2, x.more(6, 0));
        check.due("no member", -2, x.more(-1, 61));
        check.due("week", -3, x.more(0, -1));
        check.due("week", -3, x.more(0, 61));
        check.due("week 60", 0, x.more(0, 60));
    }

    /** Towns 0, 1, 2 in a row, an hour apart in every hour, and an act by which nothing is paid. */
    private static PennyPost row() {
        PennyPost x = new PennyPost();
        x.way(0, 1, 1, 1, 1, 0, 0);
        x.way(1, 2, 1, 1, 1, 0, 0);
        Check.act(x, "over 1 pay 0", 0);
        x.hours(10);
        return x;
    }

    private static void alikes() {
        check.promise(23);
        PennyPost x = row();
        check.due("none", 0, x.alike(0));
        x.letter(0, 1, 1, 1, 0, 1, 5);
        x.letter(0, 1, 1, 1, 0, 0, 5);
        x.letter(0, 1, 1, 1, 0, 2, 5);
        x.letter(2, 1, 1, 1, 0, 1, 5);
        x.letter(2, 1, 1, 1, 0, 1, 2399);
        check.due("bits", 9, x.alike(5));
        check.due("another", 16, x.alike(2399));
        check.due("another", 0, x.alike(4));
        check.due("outside", -3, x.alike(-1));
        check.due("outside", -3, x.alike(2400));
    }

    private static void forgeries() {
        check.promise(24);
        PennyPost x = row();
        check.due("none", 0, x.forged(5));
        x.set(1, 3);
        x.letter(0, 1, 1, 1, 0, 1, 5);
        check.due("one", 0, x.forged(5));
        x.hours(5);
        x.letter(2, 0, 1, 1, 0, 1, 5);
        check.due("given in hour 11, washed by 14, there in 15", 0, x.forged(5));
        x.set(1, 4);
        check.due("an hour too late", 1, x.forged(5));
        x.set(1, 3);
        x.letter(2, 1, 1, 1, 0, 1, 5);
        check.due("a stamp is washed to one letter", 1, x.forged(5));
        x.set(1, 4);
        check.due("all three", 2, x.forged(5));
        x.hours(10);
        x.letter(0, 1, 1, 1, 0, 1, 5);
        check.due("the last from one of them", 2, x.forged(5));
        x.letter(0, 1, 1, 1, 0, 1, 6);
        check.due("another stamp", 2, x.forged(5));
        check.due("another stamp", 0, x.forged(6));
        check.due("outside", -3, x.forged(-1));
        check.due("outside", -3, x.forged(2400));
        PennyPost y = row();
        y.set(1, 0);
        y.letter(0, 1, 1, 1, 0, 1, 0);
        y.hours(1);
        y.letter(1, 2, 1, 1, 0, 1, 0);
        check.due("it is not given yet", 1, y.forged(0));
        y.hours(2);
        check.due("given in the hour in which the other was written", 0, y.forged(0));
        PennyPost z = row();
        z.letter(0, 1, 1, 1, 0, 1, 0);
        z.hours(48);
        z.letter(1, 2, 1, 1, 0, 1, 0);
        check.due("an hour below 48 at first", 1, z.forged(0));
        z.hours(1);
        z.letter(1, 2, 1, 1, 0, 1, 0);
        check.due("48 hours at first", 1, z.forged(0));
    }

    /** WASH at its least, at its most, and as it is at first. */
    private static void washBounds() {
        check.promise(24);
        int[][] washBehind = {{-1, 48}, {0, 0}, {1, 1}, {200, 200}};
        for (int[] w : washBehind) {
            for (int early = 0; early < 2; early++) {
                PennyPost x = row();
                if (w[0] >= 0) x.set(1, w[0]);
                x.letter(0, 1, 1, 1, 0, 1, 5);
                x.hours(2);
                // given in hour 11, washed in hour 11 + WASH, in town 0 an hour behind it
                for (int hour = 12; hour < 12 + w[1] - early; hour++) {
                    x.hours(1);
                }
                if (x.count(0) != 12 + w[1] - early) continue;
                x.letter(0, 1, 1, 1, 0, 1, 5);
                check.due("wash " + w[0] + ", an hour early: " + early, early, x.forged(5));
            }
        }
        PennyPost x = row();
        x.set(1, 0);
        x.letter(0, 1, 1, 1, 0, 1, 5);
        x.hours(1);
        x.letter(0, 1, 1, 1, 0, 1, 5);
        check.due("it is on its way", 1, x.forged(5));
        x.hours(1);
        check.due("it is given behind the hour in which the other was written", 1, x.forged(5));
        x.letter(2, 1, 1, 1, 0, 1, 5);
        x.letter(1, 0, 1, 1, 0, 1, 5);
        check.due("two from one: one of them by washing", 2, x.forged(5));
        x.hours(3);
        check.due("the second was given in the hour in which the fourth was written", 1, x.forged(5));
        x.letter(1, 0, 1, 1, 0, 1, 5);
        x.letter(1, 0, 1, 1, 0, 1, 5);
        check.due("one behind each row", 1, x.forged(5));
        x.letter(1, 0, 1, 1, 0, 1, 5);
        check.due("a third has no row of its own", 2, x.forged(5));
    }

    /** All 24 letters with one stamp, then with the least and the greatest one by turns. */
    private static void allAlike() {
        PennyPost x = row();
        for (int i = 0; i < 24; i++) {
            x.letter(0, 1, 1, 1, 0, 1, 2399);
        }
        check.promise(23);
        check.due("24 bits", 0xFFFFFF, x.alike(2399));
        check.due("none", 0, x.alike(2398));
        check.promise(24);
        check.due("all but one", 23, x.forged(2399));
        check.due("without any", 0, x.forged(2398));
        x.hours(60);
        check.due("written at once they still are", 23, x.forged(2399));
        PennyPost y = row();
        y.set(1, 0);
        for (int i = 0; i < 24; i++) {
            y.letter(i / 2 % 2, 1 - i / 2 % 2, 1, 1, 0, 1, i % 2 * 2399);
            if (i % 2 == 1) y.hours(2);
        }
        check.promise(23);
        check.due("the even ones", 0x555555, y.alike(0));
        check.due("the odd ones", 0xAAAAAA, y.alike(2399));
        check.promise(24);
        check.due("in one row", 0, y.forged(0));
        check.due("in one row", 0, y.forged(2399));
        y.set(1, 2);
        check.due("each second one from the town in which it was given", 1, y.forged(0));
    }

    /** Holds forged() and alike(), with letters of all kinds and several stamps, against most pairs found by another way. */
    private static void againstPairs() {
        check.promise(24);
        Check.Dice dice = new Check.Dice(240);
        for (int run = 0; run < 120; run++) {
            PennyPost x = new PennyPost();
            for (int i = 0; i < 8; i++) {
                x.way(dice.below(6), dice.below(6), 1, dice.from(1, 4), dice.from(1, 3), 0, 0);
            }
            Check.act(x, "over 9 pay 1", 0);
            x.hours(30);
            x.set(1, dice.below(8));
            int stamps = dice.from(1, 3);
            int[][] letters = new int[24][];
            int n = 0;
            for (int i = 0; i < 60 && n < 24; i++) {
                int[] letter = {dice.below(6), dice.below(6), dice.below(4) == 0 ? dice.below(3) : 1, 1 + dice.below(stamps)};
                if (x.letter(letter[0], letter[1], 1, 1, 200, letter[2], letter[3]) >= 0) letters[n++] = letter;
                if (dice.below(3) == 0) x.hours(dice.from(1, 7));
            }
            for (int stamp = 0; stamp <= stamps; stamp++) {
                for (int wash = 0; wash < 20; wash += 6) {
                    x.set(1, wash);
                    check.due("run " + run + ", stamp " + stamp + ", wash " + wash, byPairs(x, letters, n, stamp, wash), x.forged(stamp));
                }
                int bits = 0;
                for (int i = 0; i < n; i++) {
                    if (letters[i][2] == 1 && letters[i][3] == stamp) bits |= 1 << i;
                }
                check.due("run " + run + ", alike " + stamp, bits, x.alike(stamp));
            }
        }
    }

    /** Pairs are made more by paths that are sought breadth first, until none is found. */
    private static int byPairs(PennyPost x, int[][] letters, int n, int stamp, int wash) {
        boolean[][] washes = new boolean[n][n];
        int rows = 0;
        for (int i = 0; i < n; i++) {
            if (letters[i][2] != 1 || letters[i][3] != stamp) continue;
            rows++;
            for (int j = 0; j < n; j++) {
                if (letters[j][2] != 1 || letters[j][3] != stamp || x.at(i, 0) != 2) continue;
                int there = x.due(letters[i][1], letters[j][0], x.at(i, 6) + wash);
                washes[i][j] = there != -1 && there <= x.at(j, 5);
            }
        }
        int[] behind = new int[n];
        int[] ahead = new int[n];
        Arrays.fill(behind, -1);
        Arrays.fill(ahead, -1);
        while (addPair(washes, n, behind, ahead)) {
            rows--;
        }
        return Math.max(0, rows - 1);
    }

    private static boolean addPair(boolean[][] washes, int n, int[] behind, int[] ahead) {
        int[] by = new int[n];
        Arrays.fill(by, -1);
        List<Integer> open = new ArrayList<>();
        for (int i = 0; i < n; i++) {
            if (behind[i] == -1) open.add(i);
        }
        for (int at = 0; at < open.size(); at++) {
            int i = open.get(at);
            for (int j = 0; j < n; j++) {
                if (!washes[i][j] || by[j] != -1) continue;
                by[j] = i;
                if (ahead[j] != -1) {
                    open.add(ahead[j]);
                    continue;
                }
                for (int to = j; to != -1;) {
                    int from = by[to];
                    int was = behind[from];
                    behind[from] = to;
                    ahead[to] = from;
                    to = was;
                }
                return true;
            }
        }
        return false;
    }

    /** Holds forged() against all ways of putting the letters in rows. */
    private static void againstRows() {
        check.promise(24);
        Check.Dice dice = new Check.Dice(24);
        for (int run = 0; run < 60; run++) {
            PennyPost x = new PennyPost();
            for (int i = 0; i < 6; i++) {
                x.way(dice.below(5), dice.below(5), 1, dice.from(1, 6), dice.from(1, 4), 0, 0);
            }
            Check.act(x, "over 9 pay 1", 0);
            x.hours(30);
            x.set(1, dice.below(12));
            List<int[]> letters = new ArrayList<>();
            for (int i = 0; i < 30 && letters.size() < 9; i++) {
                int from = dice.below(5);
                int to = dice.below(5);
                if (x.letter(from, to, 1, 1, 0, 1, 77) >= 0) letters.add(new int[] {from, to});
                if (dice.below(3) > 0) x.hours(dice.from(1, 9));
            }
            for (int wash = 0; wash < 25; wash += 3) {
                x.set(1, wash);
                int rows = fewestRows(x, letters, wash, 0, new boolean[letters.size()]);
                check.due("run " + run + ", wash " + wash, letters.isEmpty() ? 0 : rows - 1, x.forged(77));
            }
        }
    }

    private static int fewestRows(PennyPost x, List<int[]> letters, int wash, int next, boolean[] used) {
        if (next == letters.size()) return 0;
        int fewest = 1 + fewestRows(x, letters, wash, next + 1, used);
        for (int i = 0; i < letters.size(); i++) {
            if (used[i] || i == next || x.at(i, 0) != 2) continue;
            int there = x.due(letters.get(i)[1], letters.get(next)[0], x.at(i, 6) + wash);
            if (there == -1 || there > x.at(next, 5)) continue;
            used[i] = true;
            fewest = Math.min(fewest, fewestRows(x, letters, wash, next + 1, used));
            used[i] = false;
        }
        return fewest;
    }
}
