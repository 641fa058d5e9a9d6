/** Promises 29 to 36: wants, years, the price that is even, acts as prices, plans. */
public final class PricesTest {
    private static final Check check = new Check("PricesTest");
    private static final int LEAST_INT = Integer.MIN_VALUE;

    public static void main(String[] args) {
        wants();
        years();
        smugglers();
        losses();
        evens();
        unders();
        prices();
        plans();
        planned();
        judges();
        yearByYear();
        limits();
        againstAllPlans();
        againstPlainPlans();
        check.end();
    }

    private static PennyPost one(int people, int worth, int times) {
        PennyPost x = new PennyPost();
        x.want(0, 1, people, worth, times);
        return x;
    }

    private static void wants() {
        check.promise(29);
        PennyPost x = new PennyPost();
        check.due("no town", -2, x.want(-1, 0, 1, 1, 1));
        check.due("no town", -2, x.want(0, 10, 0, 0, 0));
        check.due("one and itself", -2, x.want(4, 4, 1, 1, 1));
        int[][] outside = {{0, 1, 1}, {501, 1, 1}, {1, -1, 1}, {1, 100, 1}, {1, 1, -1}, {1, 1, 61}};
        for (int[] o : outside) {
            check.due("want " + java.util.Arrays.toString(o), -3, x.want(0, 1, o[0], o[1], o[2]));
        }
        check.due("none", 0, x.count(9));
        check.due("least", 0, x.want(0, 1, 1, 0, 0));
        check.due("most", 1, x.want(9, 8, 500, 99, 60));
        for (int i = 2; i < 8; i++) {
            check.due("alike", i, x.want(9, 8, 500, 99, 60));
        }
        check.due("full", -5, x.want(9, 8, 1, 1, 1));
        check.due("outside ahead of full", -3, x.want(9, 8, 0, 1, 1));
        check.due("unknown ahead of full", -2, x.want(9, 9, 1, 1, 1));
        check.due("eight", 8, x.count(9));
        check.promise(30);
        check.due("all at the highest price", 7 * 30000, x.year(99, 0));
        check.due("income", 99 * 7 * 30000, x.year(99, 2));
    }

    private static void years() {
        check.promise(30);
        PennyPost x = one(10, 5, 6);
        check.due("at its worth", 60, x.year(5, 0));
        check.due("above it", 0, x.year(6, 0));
        check.due("above it not by smugglers, who take none", 0, x.year(6, 1));
        check.due("income", 300, x.year(5, 2));
        check.due("no income", 0, x.year(6, 2));
        check.due("loss", 1000 + 10 - 300, x.year(5, 3));
        check.due("free of charge", 1000 + 10, x.year(0, 3));
        check.due("years change nothing", 60, x.year(1, 0));
        check.due("price", LEAST_INT, x.year(-1, 0));
        check.due("price", LEAST_INT, x.year(100, 0));
        check.due("what", LEAST_INT, x.year(0, -1));
        check.due("what", LEAST_INT, x.year(0, 4));
        x.want(1, 2, 100, 99, 1);
        check.due("both", 160, x.year(5, 0));
        check.due("one of them", 100, x.year(6, 0));
        check.due("nobody's wants", 1000, new PennyPost().year(99, 3));
    }

    private static void smugglers() {
        check.promise(30);
        PennyPost x = one(10, 5, 6);
        x.set(6, 3);
        check.due("the post for as much", 60, x.year(3, 0));
        check.due("no smugglers then", 0, x.year(3, 1));
        check.due("smugglers for less", 0, x.year(4, 0));
        check.due("by smugglers", 60, x.year(4, 1));
        check.due("no income by them", 0, x.year(4, 2));
        check.due("no loss by them", 1000, x.year(4, 3));
        x.want(0, 1, 7, 3, 1);
        check.due("all by smugglers together", 67, x.year(4, 1));
        check.due("above its worth too", 67, x.year(6, 1));
        x.set(6, 5);
        check.due("smugglers at its worth", 60, x.year(6, 1));
        x.set(6, 6);
        check.due("smugglers above it", 0, x.year(7, 1));
        check.due("the post below them", 60, x.year(5, 0));
        x.set(6, 0);
        check.due("for nothing", 67, x.year(0, 0));
        check.due("for nothing", 67, x.year(1, 1));
        x.set(6, -1);
        check.due("none again", 67, x.year(1, 0));
        check.due("none again", 0, x.year(6, 1));
    }

    private static void losses() {
        check.promise(30);
        int[] letters = {0, 1, 5, 6, 7, 12, 13};
        int[] up = {0, 1, 1, 1, 2, 2, 3};
        for (int i = 0; i < letters.length; i++) {
            PennyPost x = letters[i] == 0 ? one(1, 0, 0) : one(letters[i], 0, 1);
            x.set(2, 0);
            check.due("loss with " + letters[i], up[i], x.year(0, 3));
        }
        PennyPost x = one(7, 0, 1);
        x.set(2, 100000);
        x.set(3, 99);
        check.due("each letter's sixths, rounded up together", 100000 + 116, x.year(0, 3));
        x.set(3, 0);
        check.due("none for each", 100000, x.year(0, 3));
        PennyPost most = new PennyPost();
        for (int i = 0; i < 8; i++) {
            most.want(0, 1, 500, 99, 60);
        }
        most.set(3, 99);
        check.due("the most", 1000 + 99 * 40000 - 99 * 240000, most.year(99, 3));
    }

    private static void evens() {
        check.promise(31);
        PennyPost x = one(10, 20, 10);
        check.due("1000 and 17 by 100", 11, x.even());
        x.set(2, 983);
        check.due("just even", 10, x.even());
        x.set(2, 984);
        check.due("a penny short", 11, x.even());
        x.set(2, 10000);
        check.due("none", -1, x.even());
        x.set(2, 0);
        x.set(3, 0);
        check.due("at once", 0, x.even());
        PennyPost none = new PennyPost();
        check.due("nothing to cover FIXED", -1, none.even());
        none.set(2, 0);
        check.due("nothing to cover", 0, none.even());
        PennyPost y = one(1, 99, 60);
        y.set(2, 99 * 60 - 10);
        check.due("the last price", 99, y.even());
        y.set(2, 99 * 60 - 9);
        check.due("none", -1, y.even());
        y.set(6, 98);
        y.set(2, 98 * 60 - 9);
        check.due("smugglers keep it from being even", -1, y.even());
    }

    private static void unders() {
        check.promise(32);
        PennyPost x = new PennyPost();
        check.due("no act", -2, x.under(0, 9));
        x.way(0, 1, 10, 1, 1, 0, 0);
        x.way(1, 2, 30, 1, 1, 0, 0);
        Check.act(x, "to 10 pay 3; to 40 pay 7; weigh 4; ahead 99", 0);
        Check.act(x, "to 10 pay 3", 900);
        check.due("no wants", 0, x.under(0, 0));
        x.want(0, 1, 10, 6, 1);
        x.want(2, 0, 20, 14, 2);
        x.want(0, 3, 30, 99, 60);
        check.due("letters", 50, x.under(0, 0));
        check.due("income, for 8 drams", 6 * 10 + 14 * 40, x.under(0, 1));
        check.due("no pence for 40 miles", 10, x.under(1, 0));
        check.due("income, for a sheet", 30, x.under(1, 1));
        x.set(6, 13);
        check.due("smugglers for less", 10, x.under(0, 0));
        x.set(6, 5);
        check.due("smugglers for less", 0, x.under(0, 0));
        check.due("smugglers for less", 0, x.under(0, 1));
        x.set(6, 6);
        check.due("smugglers for as much", 60, x.under(0, 1));
        PennyPost z = one(10, 99, 1);
        z.way(0, 1, 10, 1, 1, 0, 0);
        Check.act(z, "to 10 pay 3; weigh 7", 0);
        Check.act(z, "to 10 pay 3; weigh 8", 0);
        check.due("8 drams are more than 7", 60, z.under(0, 1));
        check.due("8 drams are no more than 8", 30, z.under(1, 1));
        PennyPost y = one(10, 2, 6);
        y.way(0, 1, 10, 1, 1, 0, 0);
        Check.act(y, "to 10 pay 3", 0);
        check.due("above its worth", 0, y.under(0, 0));
        PennyPost u = new PennyPost();
        u.way(0, 1, 100, 1, 1, 0, 0);
        u.way(1, 2, 200, 1, 1, 0, 0);
        u.want(0, 1, 10, 99, 1);
        Check.act(u, "to 100 pay 99", 0);
        Check.act(u, "to 99 pay 1; over 100 pay 98", 0);
        Check.act(u, "to 100 pay 50; weigh 4", 0);
        Check.act(u, "to 99 pay 5", 0);
        Check.act(u, "over 1 pay 0", 0);
        check.due("99 is its worth", 990, u.under(0, 1));
        check.due("over, beyond to", 990, u.under(1, 1));
        check.due("100 is above all worth", 0, u.under(2, 0));
        check.due("no pence", 0, u.under(3, 0));
        check.due("for nothing", 10, u.under(4, 0));
        check.due("for nothing", 0, u.under(4, 1));
        for (int i = 1; i < 8; i++) {
            u.want(2, 1, 500, 99, 60);
        }
        check.due("all eight wants", 10 + 7 * 30000, u.under(4, 0));
        check.due("for nothing, all", 0, u.under(4, 1));
        u.set(6, 0);
        check.due("smugglers for nothing too", 10 + 7 * 30000, u.under(4, 0));
        check.due("smugglers for nothing", 0, u.under(0, 0));
        check.due("no act", -2, u.under(5, 0));
        check.due("no act", -2, x.under(2, 0));
        check.due("no act", -2, x.under(-1, 0));
        check.due("what", -3, x.under(0, -1));
        check.due("what", -3, x.under(0, 2));
    }

    private static void prices() {
        check.promise(33);
        PennyPost x = new PennyPost();
        check.due("below", -3, x.price(-1));
        check.due("above", -3, x.price(100));
        int[] told = {0, 99, 5, 5, 0, 7};
        for (int i = 0; i < 6; i++) {
            check.due("price " + i, i + 1, x.price(told[i]));
        }
        check.due("full", -5, x.price(1));
        check.due("outside ahead of full", -3, x.price(100));
        check.due("six", 6, x.count(10));
    }

    private static void plans() {
        check.promise(34);
        PennyPost x = one(100, 10, 10);
        check.due("no prices", LEAST_INT, x.plan(1, 0));
        x.price(10);
        x.price(1);
        x.price(2);
        check.due("1167 by 1: not good", 1000, x.plan(1, 0));
        check.due("of the good ones alike the least debt", 1167 - 10000, x.plan(1, 1));
        x.set(5, 166);
        check.due("the least debt, though 1 is not good", 1167 - 10000, x.plan(1, 1));
        check.due("grows by 1 behind a year at 2", 1000 + 1100, x.plan(2, 0));
        x.set(4, 2);
        check.due("grows by 2 behind a year at 2", 1000 + 1200, x.plan(2, 0));
        check.due("and then at 10", 1167 - 2000 + 1200 - 12000, x.plan(2, 1));
        x.set(5, -9000);
        check.due("none is good", LEAST_INT, x.plan(2, 0));
        x.set(5, -8833);
        check.due("the limit itself is good", 2000, x.plan(2, 0));
        check.due("years", LEAST_INT, x.plan(0, 0));
        check.due("years", LEAST_INT, x.plan(6, 0));
        check.due("what", LEAST_INT, x.plan(1, -1));
        check.due("what", LEAST_INT, x.plan(1, 2));
        PennyPost y = new PennyPost();
        y.price(3);
        y.set(5, 5000);
        check.due("without wants", 0, y.plan(5, 0));
        check.due("without wants", 5000, y.plan(5, 1));
        y.set(5, 4999);
        check.due("good behind four years, not behind five", LEAST_INT, y.plan(5, 1));
        check.due("good behind four years", 4000, y.plan(4, 1));
    }

    private static void planned() {
        check.promise(35);
        PennyPost x = one(100, 10, 10);
        check.due("no prices", -1, x.planned(1, 0));
        x.price(10);
        x.price(1);
        x.price(2);
        x.set(4, 2);
        x.set(5, 166);
        check.due("first", 2, x.planned(2, 0));
        check.due("second", 10, x.planned(2, 1));
        check.due("years", -3, x.planned(0, 0));
        check.due("years", -3, x.planned(6, 0));
        check.due("year", -3, x.planned(2, -1));
        check.due("year", -3, x.planned(2, 2));
        x.set(5, -9000);
        check.due("none is good", -1, x.planned(2, 0));
        PennyPost y = new PennyPost();
        y.price(7);
        y.price(3);
        y.set(5, 100000);
        for (int i = 0; i < 5; i++) {
            check.due("of several the first, by numbers", 7, y.planned(5, i));
        }
    }

    private static long row(int... prices) {
        long row = 0;
        for (int i = 0; i < prices.length; i++) {
            row |= (long) prices[i] << 7 * i;
        }
        return row;
    }

    private static void judges() {
        check.promise(36);
        PennyPost x = one(100, 10, 10);
        check.due("letters", 1000, x.judge(row(10), 1, 0));
        check.due("debt", -8833, x.judge(row(10), 1, 1));
        check.due("never above the limit", -1, x.judge(row(10), 1, 2));
        check.due("at once", 0, x.judge(row(0), 1, 2));
        x.set(5, -7000);
        check.due("in the end", 2, x.judge(row(10, 11, 11), 3, 2));
        check.due("at once", 0, x.judge(row(1, 10, 10), 3, 2));
        x.set(5, 167);
        check.due("the limit itself is not above it", -1, x.judge(row(1), 1, 2));
        x.set(5, 166);
        check.due("above it", 0, x.judge(row(1), 1, 2));
        x.set(5, 500);
        check.due("the first of several", 1, x.judge(row(1, 11, 99, 99), 4, 2));
        check.due("above it for a year", 1, x.judge(row(1, 11, 10), 3, 2));
        check.due("five years", 1000 + 1100 + 1200 + 1300 + 1400, x.judge(row(1, 1, 1, 1, 1), 5, 0));
        check.due("what is told beyond the years is not read", 1000, x.judge(row(10, 127, 127), 1, 0));
        check.due("a row below 0", 1000, x.judge(row(10) | Long.MIN_VALUE, 1, 0));
        check.due("a price", LEAST_INT, x.judge(row(100), 1, 0));
        check.due("a price", LEAST_INT, x.judge(row(1, 1, 1, 1, 100), 5, 0));
        check.due("99", 0, x.judge(row(99), 1, 0));
        check.due("years", LEAST_INT, x.judge(0, 0, 0));
        check.due("years", LEAST_INT, x.judge(0, 6, 0));
        check.due("what", LEAST_INT, x.judge(0, 1, -1));
        check.due("what", LEAST_INT, x.judge(0, 1, 3));
        check.due("a first year still", 1000, x.year(1, 0));
    }

    /** LIMIT binds behind each year, also behind one that a later one makes good. */
    private static void limits() {
        check.promise(34);
        PennyPost x = one(100, 10, 10);
        x.price(1);
        x.price(10);
        x.set(4, 0);
        x.set(5, 167);
        check.due("as many letters by each: the least debt", -17666, x.plan(2, 1));
        PennyPost y = one(100, 10, 10);
        y.price(0);
        y.price(10);
        y.set(4, 1);
        y.set(5, 1167);
        check.due("more letters by a year for nothing", 2100, y.plan(2, 0));
        check.due("and then at 10", 1167 + 1184 - 11000, y.plan(2, 1));
        y.set(5, 1166);
        check.due("which is not good for a penny", 2000, y.plan(2, 0));
        check.promise(35);
        check.due("10 at first", 10, y.planned(2, 0));
        check.promise(36);
        check.due("above behind the first year alone", 0, y.judge(row(0, 10), 2, 2));
        check.due("though not in the end", 1167 + 1184 - 11000, y.judge(row(0, 10), 2, 1));
        y.set(5, 1167);
        check.due("not above", -1, y.judge(row(0, 10), 2, 2));
        y.set(5, -1000000);
        check.due("the least limit", 0, y.judge(row(10), 1, 2));
        y.set(5, 1000000);
        y.set(2, 100000);
        y.set(3, 99);
        check.due("the most limit", -1, y.judge(row(99, 99, 99, 99, 99), 5, 2));
        PennyPost z = new PennyPost();
        for (int i = 0; i < 8; i++) {
            z.want(0, 1, 500, 99, 60);
        }
        z.set(3, 99);
        z.set(2, 100000);
        z.set(5, 1000000);
        int loss = 100000 + 99 * 40000;
        check.due("the most letters at no price", 2 * loss, z.judge(row(0, 0), 2, 1));
        check.due("above in the first year", 0, z.judge(row(0, 0), 2, 2));
        check.due("the most income of five years", 5 * (loss - 99 * 240000), z.judge(row(99, 99, 99, 99, 99), 5, 1));
        check.due("all letters of five years", 5 * 240000, z.judge(row(99, 99, 99, 99, 99), 5, 0));
        z.price(99);
        check.promise(34);
        check.due("all letters of five years", 5 * 240000, z.plan(5, 0));
        check.due("the most income of five years", 5 * (loss - 99 * 240000), z.plan(5, 1));
    }

    /** Letters in year 1 behind a year at a price. */
    private static int behind(int worth, int times, int grow, int smugglers, int price) {
        PennyPost x = one(1, worth, times);
        x.set(4, grow);
        x.set(6, smugglers);
        return x.judge(row(price, 0), 2, 0) - x.year(price, 0);
    }

    private static void yearByYear() {
        check.promise(36);
        check.due("half worth", 11, behind(10, 10, 1, -1, 5));
        check.due("above half", 10, behind(10, 10, 1, -1, 6));
        check.due("half of 11, cut", 11, behind(11, 10, 1, -1, 5));
        check.due("half of 11, cut", 10, behind(11, 10, 1, -1, 6));
        check.due("grow", 19, behind(10, 10, 9, -1, 0));
        check.due("no grow", 10, behind(10, 10, 0, -1, 0));
        check.due("60 at most", 60, behind(10, 55, 9, -1, 0));
        check.due("from no letters", 3, behind(10, 0, 3, -1, 5));
        check.due("not at all", 9, behind(10, 10, 1, -1, 11));
        check.due("0 at least", 0, behind(10, 0, 1, -1, 11));
        check.due("by smugglers, as they were", 10, behind(10, 10, 1, 10, 11));
        check.due("smugglers too dear", 9, behind(10, 10, 1, 11, 12));
        check.due("worth nothing", 11, behind(0, 10, 1, -1, 0));
        check.due("half of 1, cut, is 0", 11, behind(1, 10, 1, -1, 0));
        check.due("1 is above it", 10, behind(1, 10, 1, -1, 1));
        check.due("half of 99, cut", 11, behind(99, 10, 1, -1, 49));
        check.due("half of 99, cut", 10, behind(99, 10, 1, -1, 50));
        check.due("60 stays", 60, behind(10, 60, 9, -1, 5));
        check.due("just 60", 60, behind(10, 51, 9, -1, 5));
        check.due("59", 59, behind(10, 50, 9, -1, 5));
        check.due("60 without growing", 60, behind(10, 60, 0, -1, 5));
        check.due("to 0", 0, behind(10, 1, 1, -1, 11));
        check.due("from 60, not at all", 59, behind(10, 60, 9, -1, 11));
        check.due("one less, whatever they grow by", 9, behind(10, 10, 9, -1, 11));
        check.due("the post at the price of smugglers", 11, behind(10, 10, 1, 5, 5));
        check.due("the post beyond it, but smugglers", 10, behind(10, 10, 1, 4, 5));
        check.due("the post at 0, as smugglers", 11, behind(10, 10, 1, 0, 0));
    }

    /** Holds plan() and planned() against judge() of every row of prices. */
    private static void againstAllPlans() {
        Check.Dice dice = new Check.Dice(34);
        for (int run = 0; run < 40; run++) {
            PennyPost x = new PennyPost();
            for (int i = dice.below(9); i > 0; i--) {
                x.want(0, 1, dice.from(1, 60), dice.below(30), dice.below(61));
            }
            int[] prices = new int[dice.from(1, 4)];
            for (int i = 0; i < prices.length; i++) {
                prices[i] = dice.below(run % 4 == 0 ? 3 : 25);
                x.price(prices[i]);
            }
            x.set(2, dice.below(9000));
            x.set(3, dice.below(30));
            x.set(4, dice.below(10));
            x.set(5, dice.from(-9000, 9000));
            x.set(6, dice.from(-1, 20));
            for (int n = 1; n <= 4; n++) {
                againstJudge(x, prices, n, "run " + run + ", " + n + " years");
            }
        }
    }

    /** Up to five years of six prices, held against a model that keeps all that it needs in each step. */
    private static void againstPlainPlans() {
        Check.Dice dice = new Check.Dice(345);
        for (int run = 0; run < 30; run++) {
            PennyPost x = new PennyPost();
            int[][] wants = new int[dice.from(1, 8)][];
            int[] times = new int[wants.length];
            for (int i = 0; i < wants.length; i++) {
                wants[i] = new int[] {dice.from(1, 60), dice.below(30)};
                times[i] = dice.below(61);
                x.want(1, 0, wants[i][0], wants[i][1], times[i]);
            }
            int[] prices = new int[6];
            for (int i = 0; i < 6; i++) {
                prices[i] = dice.below(run % 3 == 0 ? 4 : 30);
                x.price(prices[i]);
            }
            int[] rules = {dice.below(9000), dice.below(100), dice.below(10), dice.from(-6000, 12000), dice.from(-1, 20)};
            for (int i = 0; i < 5; i++) {
                x.set(2 + i, rules[i]);
            }
            int n = 3 + run % 3;
            Plan plan = new Plan(wants, prices, rules, n);
            plan.go(0, times, 0, 0);
            String what = "run " + run + ", " + n + " years";
            check.promise(34);
            check.due(what + ": letters", plan.best == null ? LEAST_INT : plan.letters, x.plan(n, 0));
            check.due(what + ": debt", plan.best == null ? LEAST_INT : plan.debt, x.plan(n, 1));
            check.promise(35);
            for (int i = 0; i < n; i++) {
                check.due(what + ": year " + i, plan.best == null ? -1 : plan.best[i], x.planned(n, i));
            }
            check.promise(36);
            int[] now = new int[n];
            for (int i = 0; i < n; i++) {
                now[i] = dice.below(30);
            }
            Plan single = new Plan(wants, now, rules, n);
            single.follow(times);
            check.due(what + ": judged letters", single.letters, x.judge(row(now), n, 0));
            check.due(what + ": judged debt", single.debt, x.judge(row(now), n, 1));
            check.due(what + ": judged year", single.broke, x.judge(row(now), n, 2));
        }
    }

    /** The rules are FIXED, EACH, GROW, LIMIT and the price of smugglers. */
    private static final class Plan {
        private final int[][] wants;
        private final int[] prices;
        private final int[] rules;
        private final int n;
        private final int[] tried;
        int[] best;
        int letters;
        int debt;
        int broke = -1;

        Plan(int[][] wants, int[] prices, int[] rules, int n) {
            this.wants = wants;
            this.prices = prices;
            this.rules = rules;
            this.n = n;
            this.tried = new int[n];
        }

        void go(int year, int[] times, int sum, int owed) {
            if (year == n) {
                if (best != null && (sum < letters || sum == letters && owed >= debt)) return;
                best = tried.clone();
                letters = sum;
                debt = owed;
                return;
            }
            for (int price : prices) {
                int[] then = times.clone();
                int posted = pass(then, price);
                int owing = owed + loss(posted, price);
                tried[year] = price;
                if (owing <= rules[3]) go(year + 1, then, sum + posted, owing);
            }
        }

        void follow(int[] times) {
            int[] now = times.clone();
            for (int i = 0; i < n; i++) {
                int posted = pass(now, prices[i]);
                letters += posted;
                debt += loss(posted, prices[i]);
                if (broke == -1 && debt > rules[3]) broke = i;
            }
        }

        private int loss(int posted, int price) {
            int sixths = rules[1] * posted;
            return rules[0] + sixths / 6 + (sixths % 6 > 0 ? 1 : 0) - posted * price;
        }

        private int pass(int[] times, int price) {
            int posted = 0;
            for (int w = 0; w < wants.length; w++) {
                int worth = wants[w][1];
                int other = rules[4] == -1 ? 1000 : rules[4];
                if (price <= worth && price <= other) {
                    posted += wants[w][0] * times[w];
                    if (2 * price <= worth) times[w] = Math.min(60, times[w] + rules[2]);
                } else if (other > worth && times[w] > 0) {
                    times[w]--;
                }
            }
            return posted;
        }
    }

    private static void againstJudge(PennyPost x, int[] prices, int n, String what) {
        int all = 1;
        for (int i = 0; i < n; i++) {
            all *= prices.length;
        }
        int[] best = null;
        int letters = LEAST_INT;
        int debt = LEAST_INT;
        for (int number = 0; number < all; number++) {
            int[] plan = new int[n];
            for (int i = n - 1, rest = number; i >= 0; i--, rest /= prices.length) {
                plan[i] = prices[rest % prices.length];
            }
            long row = row(plan);
            if (x.judge(row, n, 2) != -1) continue;
            int l = x.judge(row, n, 0);
            int d = x.judge(row, n, 1);
            if (best != null && (l < letters || l == letters && d >= debt)) continue;
            best = plan;
            letters = l;
            debt = d;
        }
        check.promise(34);
        check.due(what + ": letters", letters, x.plan(n, 0));
        check.due(what + ": debt", debt, x.plan(n, 1));
        check.promise(35);
        for (int i = 0; i < n; i++) {
            check.due(what + ": year " + i, best == null ? -1 : best[i], x.planned(n, i));
        }
    }
}
