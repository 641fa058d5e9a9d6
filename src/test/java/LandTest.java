/** Promises 1 to 5: a new object, ways, miles, hours. */
public final class LandTest {
    private static final Check check = new Check("LandTest");

    public static void main(String[] args) {
        newObject();
        ways();
        farthest();
        hours();
        nextWays();
        row();
        leaving();
        againstFloods();
        check.end();
    }

    private static void newObject() {
        check.promise(1);
        PennyPost x = new PennyPost();
        for (int what = 0; what <= 11; what++) {
            check.due("count(" + what + ")", 0, x.count(what));
        }
        check.due("purse", 200, x.purse(9, 200));
        check.due("doors", 1, x.doors(1));
        check.due("code", 0, x.code(0, 1, 0));
        new PennyPost().way(0, 1, 1, 1, 1, 0, 0);
        check.due("another object's way", 0, x.count(1));
    }

    private static void ways() {
        check.promise(2);
        PennyPost x = new PennyPost();
        check.due("no town", -2, x.way(-1, 1, 1, 1, 1, 0, 0));
        check.due("no town", -2, x.way(0, 10, 1, 1, 1, 0, 0));
        check.due("no town ahead of numbers", -2, x.way(10, 10, 0, 0, 0, 0, -1));
        check.due("one and itself", -3, x.way(9, 9, 1, 1, 1, 0, 0));
        int[][] outside = {{0, 1, 1, 0, 0}, {201, 1, 1, 0, 0}, {1, 0, 1, 0, 0}, {1, 41, 1, 0, 0}, {1, 1, 0, 0, 0},
            {1, 1, 25, 0, 0}, {1, 1, 6, -1, 0}, {1, 1, 6, 6, 0}, {1, 1, 6, 0, -1}, {1, 1, 6, 0, 1000}};
        for (int[] o : outside) {
            check.due("way with " + java.util.Arrays.toString(o), -3, x.way(0, 1, o[0], o[1], o[2], o[3], o[4]));
        }
        check.due("none was made", 0, x.count(1));
        check.due("least", 0, x.way(0, 1, 1, 1, 1, 0, 0));
        check.due("most", 1, x.way(9, 8, 200, 40, 24, 23, 999));
        check.due("there is one", -4, x.way(1, 0, 5, 5, 5, 0, 5));
        check.due("there is one, told as it was", -4, x.way(0, 1, 5, 5, 5, 0, 5));
        check.due("there is one, the second", -4, x.way(9, 8, 5, 5, 5, 0, 5));
        check.due("there is one, the second", -4, x.way(8, 9, 5, 5, 5, 0, 5));
        check.due("numbers ahead of there is one", -3, x.way(1, 0, 5, 5, 5, 5, 5));
        int made = 2;
        for (int a = 1; a < 8 && made < 16; a++) {
            for (int b = a + 1; b < 8 && made < 16; b++) {
                check.due("way " + made, made, x.way(a, b, 1, 1, 1, 0, 0));
                made++;
            }
        }
        check.due("full", -5, x.way(0, 9, 1, 1, 1, 0, 0));
        check.due("there is one, ahead of full", -4, x.way(8, 9, 1, 1, 1, 0, 0));
        check.due("sixteen", 16, x.count(1));
        check.due("the full one joined nothing", -1, x.far(0, 9));
    }

    private static void farthest() {
        check.promise(3);
        PennyPost x = new PennyPost();
        x.way(0, 1, 20, 1, 1, 0, 0);
        x.way(1, 2, 30, 1, 1, 0, 0);
        x.way(0, 2, 60, 1, 1, 0, 0);
        x.way(3, 4, 200, 1, 1, 0, 0);
        check.due("far(0, 2)", 50, x.far(0, 2));
        check.due("far(2, 0)", 50, x.far(2, 0));
        check.due("far(9, 9)", 0, x.far(9, 9));
        check.due("far(0, 3)", -1, x.far(0, 3));
        check.due("far(10, 0)", -2, x.far(10, 0));
        check.due("far(0, -1)", -2, x.far(0, -1));
        x.way(2, 3, 7, 1, 1, 0, 0);
        check.due("far(4, 0)", 257, x.far(4, 0));
        for (int a = 4; a < 9; a++) {
            x.way(a, a + 1, 200, 1, 1, 0, 0);
        }
        check.due("far(0, 9)", 1257, x.far(0, 9));
        x.way(0, 9, 1, 1, 1, 0, 0);
        check.due("far(8, 1), by the new way", 221, x.far(8, 1));
    }

    private static void hours() {
        check.promise(4);
        PennyPost x = new PennyPost();
        x.way(0, 1, 1, 3, 6, 2, 0);
        x.way(1, 2, 1, 5, 24, 8, 0);
        check.due("leaves in that hour", 5, x.due(0, 1, 2));
        check.due("an hour too late", 11, x.due(0, 1, 3));
        check.due("both ends leave", 5, x.due(1, 0, 0));
        check.due("waits between", 13, x.due(0, 2, 0));
        check.due("misses the second", 37, x.due(0, 2, 3));
        check.due("same town", 20000, x.due(4, 4, 20000));
        check.due("beyond the last asked hour", 20003, x.due(0, 1, 20000));
        check.due("not joined", -1, x.due(0, 3, 0));
        check.due("no town", -2, x.due(0, 10, 20001));
        check.due("hour", -3, x.due(0, 1, -1));
        check.due("hour", -3, x.due(0, 1, 20001));
        check.due("hour of the same town", -3, x.due(0, 0, 20001));
    }

    private static void nextWays() {
        check.promise(5);
        PennyPost x = new PennyPost();
        x.way(0, 1, 1, 1, 1, 0, 0);
        x.way(0, 2, 1, 5, 12, 4, 0);
        check.due("there and back in time for the other", 0, x.next(0, 2, 1));
        check.due("no time for there and back", 1, x.next(0, 2, 3));
        check.due("not the way of another town", 0, x.next(1, 2, 0));
        check.due("same town", -1, x.next(2, 2, 0));
        check.due("not joined", -1, x.next(0, 5, 0));
        check.due("no town", -2, x.next(-1, 0, 0));
        check.due("no town", -2, x.next(0, 10, -5));
        check.due("hour", -3, x.next(0, 1, -1));
        check.due("hour", -3, x.next(0, 0, 20001));
        x.way(2, 1, 1, 4, 1, 0, 0);
        check.due("alike by both: the least", 0, x.next(0, 2, 4));
    }

    /** Ten towns in a row, by ways that are as long as can be, told from the far end. */
    private static void row() {
        PennyPost x = new PennyPost();
        for (int a = 8; a >= 0; a--) {
            x.way(a, a + 1, 200, 40, 24, 23, 999);
        }
        check.promise(3);
        check.due("far(0, 9)", 1800, x.far(0, 9));
        check.due("far(9, 0)", 1800, x.far(9, 0));
        check.promise(4);
        check.due("from hour 23, two days for each way", 63 + 8 * 48, x.due(0, 9, 0));
        check.due("from the other end", 63 + 8 * 48, x.due(9, 0, 0));
        check.due("the hour itself", 63 + 8 * 48, x.due(0, 9, 23));
        check.due("an hour too late", 87 + 8 * 48, x.due(0, 9, 24));
        check.due("from the last hour", 20055 + 8 * 48, x.due(9, 0, 20000));
        check.promise(5);
        check.due("the way told last", 8, x.next(0, 9, 0));
        check.due("the way told first", 0, x.next(9, 0, 20000));
        check.due("onwards", 3, x.next(5, 9, 0));
        check.due("back", 4, x.next(5, 0, 0));
    }

    /** In which hours a way leaves, by EVERY and FIRST at their least and most. */
    private static void leaving() {
        check.promise(4);
        int[][] everyFirst = {{1, 0}, {2, 0}, {2, 1}, {24, 0}, {24, 23}, {23, 22}};
        for (int[] e : everyFirst) {
            PennyPost x = new PennyPost();
            x.way(0, 1, 1, 1, e[0], e[1], 0);
            for (int hour = 0; hour < 100; hour++) {
                boolean leaves = hour % e[0] == e[1];
                check.holds("leaves in hour " + hour + " with " + e[0] + ", " + e[1], leaves == (x.due(0, 1, hour) == hour + 1));
                check.holds("also from the other end", leaves == (x.due(1, 0, hour) == hour + 1));
            }
        }
    }

    /** Holds far, due and next against floods that go hour by hour through random lands. */
    private static void againstFloods() {
        Check.Dice dice = new Check.Dice(5);
        for (int run = 0; run < 60; run++) {
            PennyPost x = new PennyPost();
            int[][] ways = new int[16][];
            int made = 0;
            int tries = dice.from(3, 16);
            for (int i = 0; i < tries; i++) {
                int every = dice.from(1, 24);
                int[] w = {dice.below(10), dice.below(10), dice.from(1, 200), dice.from(1, run % 2 == 0 ? 6 : 40), every, dice.below(every)};
                if (x.way(w[0], w[1], w[2], w[3], w[4], w[5], 0) == made) ways[made++] = w;
            }
            for (int ask = 0; ask < 20; ask++) {
                int a = dice.below(10);
                int b = dice.below(10);
                int hour = dice.below(60);
                String call = "run " + run + " (" + a + ", " + b + ", " + hour + ")";
                check.promise(3);
                check.due("far " + call, miles(ways, made, a, b), x.far(a, b));
                check.promise(4);
                check.due("due " + call, flood(ways, made, a, b, hour), x.due(a, b, hour));
                check.promise(5);
                check.due("next " + call, best(ways, made, a, b, hour), x.next(a, b, hour));
            }
        }
    }

    private static int miles(int[][] ways, int made, int a, int b) {
        boolean[][] at = new boolean[2001][10];
        at[0][a] = true;
        for (int m = 0; m <= 2000; m++) {
            if (at[m][b]) return m;
            for (int w = 0; w < made; w++) {
                if (m + ways[w][2] > 2000) continue;
                if (at[m][ways[w][0]]) at[m + ways[w][2]][ways[w][1]] = true;
                if (at[m][ways[w][1]]) at[m + ways[w][2]][ways[w][0]] = true;
            }
        }
        return -1;
    }

    private static int flood(int[][] ways, int made, int a, int b, int hour) {
        int last = hour + 700;
        boolean[][] in = new boolean[last + 1][10];
        in[hour][a] = true;
        for (int h = hour; h < last; h++) {
            if (in[h][b]) return h;
            for (int town = 0; town < 10; town++) {
                if (in[h][town]) in[h + 1][town] = true;
            }
            for (int w = 0; w < made; w++) {
                int then = h + ways[w][3];
                if (h % ways[w][4] != ways[w][5] || then > last) continue;
                if (in[h][ways[w][0]]) in[then][ways[w][1]] = true;
                if (in[h][ways[w][1]]) in[then][ways[w][0]] = true;
            }
        }
        return -1;
    }

    private static int best(int[][] ways, int made, int a, int b, int hour) {
        if (a == b) return -1;
        int due = flood(ways, made, a, b, hour);
        if (due == -1) return -1;
        for (int w = 0; w < made; w++) {
            if (ways[w][0] != a && ways[w][1] != a) continue;
            int leaves = hour;
            while (leaves % ways[w][4] != ways[w][5]) leaves++;
            int other = ways[w][0] == a ? ways[w][1] : ways[w][0];
            if (flood(ways, made, other, b, leaves + ways[w][3]) == due) return w;
        }
        return -1;
    }
}
