/** Promises 25 to 28: doors, paths, boxes and walks. */
public final class DoorsTest {
    private static final Check check = new Check("DoorsTest");

    public static void main(String[] args) {
        doors();
        paths();
        boxes();
        walks();
        reaches();
        againFull();
        againstAll();
        againstOrders();
        most();
        check.end();
    }

    private static void doors() {
        check.promise(25);
        PennyPost x = new PennyPost();
        check.due("none", -3, x.doors(0));
        check.due("13", -3, x.doors(13));
        check.due("one at first", 1, x.doors(12));
        check.due("then", 12, x.doors(2));
        x.path(0, 1, 3);
        check.due("as many again", 2, x.doors(2));
        check.due("no paths", 0, x.count(11));
        check.due("none joined", -1, x.walk(2));
        check.due("refused", -3, x.doors(-1));
        check.due("two still", 2, x.doors(1));
    }

    private static void paths() {
        check.promise(26);
        PennyPost x = new PennyPost();
        check.due("no door", -2, x.path(0, 1, 1));
        x.doors(3);
        check.due("no door", -2, x.path(-1, 0, 0));
        check.due("no door", -2, x.path(0, 3, 1));
        check.due("no door", -2, x.path(3, 0, 1));
        check.due("no door", -2, x.path(3, 3, 1));
        check.due("one and itself", -3, x.path(1, 1, 1));
        check.due("length", -3, x.path(0, 1, 0));
        check.due("length", -3, x.path(0, 1, 31));
        check.due("first", 1, x.path(0, 1, 30));
        check.due("where there is one", 2, x.path(1, 0, 1));
        check.due("the shorter one", 2, x.walk(2));
        check.due("a longer one", 3, x.path(0, 1, 9));
        check.due("the shorter one", 2, x.walk(2));
        for (int i = 4; i <= 24; i++) {
            check.due("path " + i, i, x.path(1, 2, 1));
        }
        check.due("full", -5, x.path(0, 2, 1));
        check.due("length ahead of full", -3, x.path(0, 2, 31));
        check.due("24", 24, x.count(11));
        check.due("nothing changed", 4, x.walk(4));
    }

    private static void boxes() {
        check.promise(27);
        PennyPost x = new PennyPost();
        check.due("one door", 1, x.boxes(0, 0));
        check.due("one door", 1, x.boxes(200, 1));
        x.doors(5);
        check.due("not joined", 5, x.boxes(200, 0));
        check.due("not joined", 31, x.boxes(200, 1));
        for (int i = 0; i < 4; i++) {
            x.path(i, i + 1, 10);
        }
        check.due("just in reach", 2, x.boxes(10, 0));
        check.due("of several the least number", 1 << 3 | 1 << 0, x.boxes(10, 1));
        check.due("just out of it", 5, x.boxes(9, 0));
        check.due("from the middle", 4, x.boxes(20, 1));
        check.due("from either end", 1, x.boxes(40, 1));
        check.due("second from an end", 2, x.boxes(39, 1));
        check.due("reach", -3, x.boxes(-1, 0));
        check.due("reach", -3, x.boxes(201, 0));
        check.due("what", -3, x.boxes(0, -1));
        check.due("what", -3, x.boxes(0, 2));
    }

    private static void walks() {
        check.promise(28);
        PennyPost x = new PennyPost();
        check.due("none", 0, x.walk(0));
        check.due("door 0", 0, x.walk(1));
        check.due("no door 1", -3, x.walk(2));
        check.due("below 0", -3, x.walk(-1));
        x.doors(5);
        x.path(0, 1, 4);
        x.path(0, 2, 6);
        x.path(1, 2, 3);
        x.path(3, 4, 1);
        check.due("there and back", 8, x.walk(2));
        check.due("round", 13, x.walk(6));
        check.due("with door 0", 13, x.walk(7));
        check.due("not joined", -1, x.walk(8));
        check.due("one not joined", -1, x.walk(22));
        check.due("outside", -3, x.walk(32));
        x.path(2, 3, 1);
        check.due("out and back by the same path", 17, x.walk(31));
        check.due("by others on the way", 16, x.walk(16));
        check.due("round by what is on the way", 17, x.walk(18));
    }

    /** REACH at its least and its most, held against doors in a row. */
    private static void reaches() {
        check.promise(27);
        PennyPost x = new PennyPost();
        x.doors(12);
        for (int i = 0; i < 11; i++) {
            x.path(i, i + 1, i == 6 ? 20 : i < 6 ? 30 : 1);
        }
        check.due("reach 0: a box at each", 12, x.boxes(0, 0));
        check.due("reach 0: a box at each", 4095, x.boxes(0, 1));
        check.due("reach 1", 6 + 3, x.boxes(1, 0));
        check.due("reach 199: 0 to 7 are 200", 1, x.boxes(199, 0));
        PennyPost y = new PennyPost();
        y.doors(2);
        y.path(0, 1, 30);
        check.due("just in reach", 1, y.boxes(30, 0));
        check.due("just in reach", 1, y.boxes(30, 1));
        check.due("a step too far", 2, y.boxes(29, 0));
        check.due("a step too far", 3, y.boxes(29, 1));
        PennyPost z = new PennyPost();
        z.doors(12);
        // door 0 between rows of 6 and of 5 doors, so that their ends are 180 and 150 from it
        for (int i = 1; i < 12; i++) {
            z.path(i, i < 3 ? 0 : i - 2, 30);
        }
        check.due("doors 0 and 1 reach as far: the least", 1, z.boxes(180, 1));
        check.due("neither alone: both, of several the least", 3, z.boxes(179, 1));
        check.due("as many for less", 2, z.boxes(90, 0));
    }

    /** New doors have room for 24 paths again, and nothing of the old ones. */
    private static void againFull() {
        check.promise(25);
        PennyPost x = new PennyPost();
        x.doors(12);
        for (int i = 0; i < 24; i++) {
            x.path(i % 12, (i + 1) % 12, 1);
        }
        check.due("full", -5, x.path(0, 5, 1));
        check.due("refused", -3, x.doors(13));
        check.due("24 still", 24, x.count(11));
        check.due("joined still", 12, x.walk(4095));
        check.due("twelve", 12, x.doors(11));
        check.promise(26);
        check.due("no door 11", -2, x.path(0, 11, 1));
        check.promise(28);
        check.due("no door 11", -3, x.walk(2048));
        check.due("nothing joined", -1, x.walk(1024));
        check.promise(27);
        check.due("nothing joined", 2047, x.boxes(200, 1));
        check.promise(26);
        for (int i = 1; i <= 24; i++) {
            check.due("path " + i, i, x.path(9, 10, 2));
        }
        check.due("full again", -5, x.path(0, 10, 1));
        check.promise(25);
        check.due("eleven", 11, x.doors(12));
        check.promise(28);
        check.due("nothing joined", -1, x.walk(2));
        check.due("door 0 alone", 0, x.walk(1));
    }

    /** Holds boxes and walks against all sets and all orders, in small random streets. */
    private static void againstAll() {
        Check.Dice dice = new Check.Dice(27);
        for (int run = 0; run < 60; run++) {
            PennyPost x = new PennyPost();
            int n = dice.from(1, 7);
            x.doors(n);
            int[][] far = new int[n][n];
            for (int[] row : far) {
                java.util.Arrays.fill(row, 9999);
            }
            for (int i = 0; i < n; i++) {
                far[i][i] = 0;
            }
            for (int i = dice.below(14); i > 0 && n > 1; i--) {
                int a = dice.below(n);
                int b = dice.below(n);
                int length = dice.from(1, 30);
                if (x.path(a, b, length) > 0) far[a][b] = far[b][a] = Math.min(far[a][b], length);
            }
            for (int k = 0; k < n; k++) {
                for (int i = 0; i < n; i++) {
                    for (int j = 0; j < n; j++) {
                        far[i][j] = Math.min(far[i][j], far[i][k] + far[k][j]);
                    }
                }
            }
            check.promise(27);
            for (int reach = 0; reach <= 60; reach += 5) {
                int set = fewest(far, n, reach);
                check.due("run " + run + " boxes " + reach, set, x.boxes(reach, 1));
                check.due("run " + run + " how many " + reach, Integer.bitCount(set), x.boxes(reach, 0));
            }
            check.promise(28);
            for (int set = 0; set < 1 << n; set++) {
                int length = shortest(far, 0, set & ~1);
                check.due("run " + run + " walk " + set, length >= 9999 ? -1 : length, x.walk(set));
            }
        }
    }

    /** Walks by nine doors, held against all orders. */
    private static void againstOrders() {
        check.promise(28);
        Check.Dice dice = new Check.Dice(28);
        for (int run = 0; run < 6; run++) {
            PennyPost x = new PennyPost();
            int n = 9;
            x.doors(n + run % 4);
            int[][] far = new int[n][n];
            for (int i = 1; i < n; i++) {
                int length = dice.from(1, 30);
                int to = dice.below(i);
                x.path(i, to, length);
                for (int j = 0; j < i; j++) {
                    far[i][j] = far[j][i] = far[to][j] + length;
                }
            }
            for (int i = 0; i < 10; i++) {
                int a = dice.below(n);
                int b = dice.below(n);
                int length = dice.from(1, 30);
                if (x.path(a, b, length) > 0) shorten(far, a, b, length);
            }
            for (int ask = 0; ask < 6; ask++) {
                int set = ask == 0 ? 511 : dice.below(512);
                check.due("run " + run + " walk " + set, shortest(far, 0, set & ~1), x.walk(set));
            }
        }
    }

    private static void shorten(int[][] far, int a, int b, int length) {
        for (int i = 0; i < far.length; i++) {
            for (int j = 0; j < far.length; j++) {
                int by = Math.min(far[i][a] + far[b][j], far[i][b] + far[a][j]) + length;
                far[i][j] = Math.min(far[i][j], by);
            }
        }
    }

    private static int fewest(int[][] far, int n, int reach) {
        for (int size = 1; size <= n; size++) {
            for (int set = 1; set < 1 << n; set++) {
                if (Integer.bitCount(set) != size) continue;
                boolean all = true;
                for (int i = 0; i < n; i++) {
                    boolean near = false;
                    for (int j = 0; j < n; j++) {
                        near |= (set >> j & 1) != 0 && far[i][j] <= reach;
                    }
                    all &= near;
                }
                if (all) return set;
            }
        }
        return -1;
    }

    private static int shortest(int[][] far, int at, int left) {
        if (left == 0) return far[at][0];
        int least = 999999;
        for (int to = 0; to < far.length; to++) {
            if ((left >> to & 1) != 0) least = Math.min(least, far[at][to] + shortest(far, to, left & ~(1 << to)));
        }
        return least;
    }

    /** Twelve doors, the most there can be. */
    private static void most() {
        PennyPost x = new PennyPost();
        x.doors(12);
        for (int i = 0; i < 12; i++) {
            x.path(i, (i + 1) % 12, 30);
        }
        check.promise(28);
        check.due("round all", 360, x.walk(4095));
        check.due("the far side", 360, x.walk(64));
        check.due("outside", -3, x.walk(4096));
        check.promise(27);
        check.due("three reach five each", 3, x.boxes(60, 0));
        check.due("their least number", 1 | 1 << 2 | 1 << 7, x.boxes(60, 1));
    }
}
