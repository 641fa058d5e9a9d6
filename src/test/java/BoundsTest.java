import java.lang.reflect.Method;
import java.util.ArrayList;
import java.util.Arrays;
import java.util.List;

/**
 * The bounds of every number of every call, as the document tells them: the least and the most are taken, what is beyond is refused, of
 * two that are refused the first that fits is told, also ahead of NOT and FULL, and nothing changes.
 */
public final class BoundsTest {
    private static final Check check = new Check("BoundsTest");
    private static final int UNKNOWN = -2, OUTSIDE = -3, NOT = -4, FULL = -5, LEAST_INT = Integer.MIN_VALUE;

    /** A number of a call: its least, its most, and what is answered beyond them. */
    private record Bound(long least, long most, int beyond) {
        long[] out() {
            if (this == ANY) return new long[0];
            return new long[] {least - 1, most + 1, Integer.MIN_VALUE, Integer.MAX_VALUE};
        }

        /** With all() there are more acts and letters than with busy(). */
        boolean isOutOfAll(long number) {
            return number < 0 || number > 99 || this != ACT && this != LETTER;
        }
    }

    /** Without bounds, or with such as another row of CALLS holds. */
    private static final Bound ANY = new Bound(0, 1, 0);
    private static final Bound TOWN = new Bound(0, 9, UNKNOWN);
    private static final Bound ACT = new Bound(0, 1, UNKNOWN);
    private static final Bound LETTER = new Bound(0, 4, UNKNOWN);
    private static final Bound MEMBER = new Bound(0, 5, UNKNOWN);
    private static final Bound DOOR = new Bound(0, 5, UNKNOWN);

    private static Bound of(long least, long most) {
        return new Bound(least, most, OUTSIDE);
    }

    private static Bound least(long least, long most) {
        return new Bound(least, most, LEAST_INT);
    }

    /** A call that busy() takes, with the bounds of its numbers. */
    private record Call(int promise, String name, long[] with, Bound... bounds) {
        int on(PennyPost x, long[] numbers) {
            try {
                Method m = null;
                for (Method each : PennyPost.class.getMethods()) {
                    if (each.getName().equals(name) && each.getParameterCount() == numbers.length) m = each;
                }
                Object[] arguments = new Object[numbers.length];
                for (int i = 0; i < numbers.length; i++) {
                    Class<?> type = m.getParameterTypes()[i];
                    if (type == int.class) arguments[i] = (int) numbers[i];
                    else if (type == long.class) arguments[i] = numbers[i];
                    else arguments[i] = numbers[i] != 0;
                }
                return (Integer) m.invoke(x, arguments);
            } catch (ReflectiveOperationException e) {
                check.holds(tell(numbers) + " throws " + e.getCause(), false);
                return 0;
            }
        }

        long[] but(int place, long number) {
            long[] numbers = with.clone();
            numbers[place] = number;
            return numbers;
        }

        String tell(long[] numbers) {
            return name + Arrays.toString(numbers);
        }
    }

    private static long[] n(long... numbers) {
        return numbers;
    }

    private static Call call(int promise, String name, long[] with, Bound... bounds) {
        return new Call(promise, name, with, bounds);
    }

    private static final Call[] CALLS = {
        call(2, "way", n(4, 5, 20, 3, 24, 2, 40), TOWN, TOWN, of(1, 200), of(1, 40), ANY, of(0, 23), of(0, 999)),
        call(2, "way", n(4, 5, 20, 3, 1, 0, 40), TOWN, TOWN, of(1, 200), of(1, 40), of(1, 24), of(0, 0), of(0, 999)),
        call(2, "way", n(4, 5, 20, 3, 7, 0, 40), TOWN, TOWN, of(1, 200), of(1, 40), of(1, 24), of(0, 6), of(0, 999)),
        call(3, "far", n(0, 2), TOWN, TOWN),
        call(4, "due", n(0, 2, 7), TOWN, TOWN, of(0, 20000)),
        call(5, "next", n(0, 2, 7), TOWN, TOWN, of(0, 20000)),
        call(6, "write", n(0x2020202020202020L, 1), ANY, of(1, 8)),
        call(9, "force", n(3), of(0, 1000)),
        call(10, "knows", n(1, 1), TOWN, ACT),
        call(11, "act", n(1, 9, 1), TOWN, of(0, 20000), of(0, 1000)),
        call(12, "postage", n(0, 9, 1, 1, 0), ACT, of(0, 5000), of(1, 9), of(1, 64), ANY),
        call(12, "postage", n(0, 9, 1, 1, 1), ACT, of(0, 5000), of(1, 9), of(1, 64), ANY),
        call(13, "why", n(0, 9), ACT, of(0, 5000)),
        call(14, "letter", n(4, 5, 1, 1, 0, 0, 0), TOWN, TOWN, of(1, 9), of(1, 64), of(0, 200), ANY, of(0, 7)),
        call(14, "letter", n(0, 1, 1, 1, 0, 1, 0), ANY, ANY, of(1, 9), of(1, 64), of(0, 200), ANY, of(0, 2399)),
        call(14, "letter", n(4, 5, 1, 1, 0, 2, 0), TOWN, TOWN, of(1, 9), of(1, 64), of(0, 200), ANY, MEMBER),
        call(14, "letter", n(4, 5, 1, 1, 0, 0, 0), TOWN, TOWN, of(1, 9), of(1, 64), of(0, 200), of(0, 2), ANY),
        call(15, "hours", n(1), of(1, 60)),
        call(16, "at", n(0, 0), LETTER, of(0, 6)),
        call(17, "purse", n(0, 5), TOWN, of(0, 30000)),
        call(18, "code", n(4, 5, 0), TOWN, TOWN, ANY),
        call(19, "set", n(0, 0), ANY, of(0, 2)),
        call(19, "set", n(1, 0), ANY, of(0, 200)),
        call(19, "set", n(2, 0), ANY, of(0, 100000)),
        call(19, "set", n(3, 0), ANY, of(0, 99)),
        call(19, "set", n(4, 0), ANY, of(0, 9)),
        call(19, "set", n(5, 0), ANY, of(-1000000, 1000000)),
        call(19, "set", n(6, 0), ANY, of(-1, 99)),
        call(19, "set", n(3, 0), of(0, 6), ANY),
        call(20, "met", n(0, 0, 0), MEMBER, TOWN, of(0, 9000)),
        call(21, "cannot", n(2), ANY),
        call(22, "more", n(0, 0), MEMBER, of(0, 60)),
        call(23, "alike", n(0), of(0, 2399)),
        call(24, "forged", n(0), of(0, 2399)),
        call(25, "doors", n(1), of(1, 12)),
        call(26, "path", n(2, 3, 1), DOOR, DOOR, of(1, 30)),
        call(27, "boxes", n(9, 0), of(0, 200), of(0, 1)),
        call(28, "walk", n(1), of(0, 63)),
        call(29, "want", n(4, 5, 9, 9, 9), TOWN, TOWN, of(1, 500), of(0, 99), of(0, 60)),
        call(30, "year", n(1, 0), least(0, 99), least(0, 3)),
        call(32, "under", n(0, 0), ACT, of(0, 1)),
        call(33, "price", n(1), of(0, 99)),
        call(34, "plan", n(1, 0), least(1, 5), least(0, 1)),
        call(35, "planned", n(5, 0), of(1, 5), of(0, 4)),
        call(35, "planned", n(1, 0), of(1, 5), of(0, 0)),
        call(36, "judge", n(1, 1, 0), ANY, least(1, 5), least(0, 2)),
        call(37, "count", n(0), of(0, 11)),
    };

    public static void main(String[] args) {
        full();
        bounds();
        refused();
        firstThatFits();
        others();
        aheadOfNotAndFull();
        check.end();
    }

    /** Takes every call of CALLS as it stands there; nothing in it is full but with all(): then everything is. */
    private static PennyPost busy(boolean all) {
        PennyPost x = new PennyPost();
        x.set(5, 1000000);
        x.set(1, 3);
        x.way(0, 1, 10, 2, 3, 1, 31);
        x.way(1, 2, 10, 1, 2, 0, 17);
        Check.act(x, "to 15 pay 2; over 5 pay 1; free 1", 0);
        Check.act(x, "to 25 pay 3; ahead 1; free 2", 1);
        x.doors(6);
        x.path(0, 1, 4);
        x.path(1, 2, 5);
        x.letter(0, 1, 1, 8, 9, 0, 3);
        x.letter(0, 1, 1, 8, 9, 1, 77);
        x.letter(0, 2, 3, 30, 9, 2, 4);
        x.letter(1, 0, 2, 9, 0, 0, 0);
        x.met(4, 2, 3);
        x.hours(9);
        x.letter(2, 0, 2, 20, 50, 0, 1);
        x.want(0, 1, 100, 10, 4);
        x.want(2, 0, 9, 40, 12);
        x.price(1);
        x.price(8);
        Check.text(x, "to 9 pay 1");
        return all ? fill(x) : x;
    }

    private static PennyPost fill(PennyPost x) {
        int ways = 2;
        for (int a = 2; ways < 16; a++) {
            for (int b = a + 1; b < 10 && ways < 16; b++) {
                ways = x.way(a, b, 9, 3, 4, 1, 7) + 1;
            }
        }
        x.force(2);
        Check.act(x, "to 40 pay 4; free 1", 3);
        Check.act(x, "to 40 pay 4; free 1", 3);
        Check.text(x, "to 99 pay 1; over 3 pay 1" + " ".repeat(135));
        for (int i = 5; i < 24; i++) {
            x.letter(i % 3, 3, 1, i, 9, 0, 0);
        }
        for (int i = 1; i < 12; i++) {
            x.met(5, 1, 9);
        }
        for (int i = 2; i < 24; i++) {
            x.path(i % 5, 5, 9);
        }
        for (int i = 2; i < 8; i++) {
            x.want(3, 4, 10, 9, 9);
        }
        for (int i = 2; i < 6; i++) {
            x.price(3);
        }
        return x;
    }

    /** Otherwise what is told of a full post would be of another one. */
    private static void full() {
        check.promise(37);
        PennyPost x = busy(true);
        int[] most = {9, 16, 5, 24, 160};
        for (int what = 0; what < most.length; what++) {
            check.due("full: " + what, most[what], x.count(what));
        }
        check.due("wants", 8, x.count(9));
        check.due("prices", 6, x.count(10));
        check.due("paths", 24, x.count(11));
        check.promise(20);
        check.due("met", FULL, x.met(0, 0, 0));
    }

    private static void bounds() {
        for (Call c : CALLS) {
            check.promise(c.promise);
            taken(c, c.with);
            for (int i = 0; i < c.with.length; i++) {
                if (c.bounds[i] == ANY) continue;
                taken(c, c.but(i, c.bounds[i].least));
                taken(c, c.but(i, c.bounds[i].most));
            }
        }
    }

    private static void taken(Call c, long[] numbers) {
        int answer = c.on(busy(false), numbers);
        boolean anyInt = c.name.equals("year") || c.name.equals("plan") || c.name.equals("judge");
        check.holds(c.tell(numbers) + " is taken, it answered " + answer, anyInt ? answer != LEAST_INT : answer >= -1);
    }

    /** Beyond one bound: also where all is full, as UNKNOWN and OUTSIDE fit first. */
    private static void refused() {
        int[][] seen = {look(busy(false)), look(busy(true))};
        for (Call c : CALLS) {
            check.promise(c.promise);
            for (int i = 0; i < c.with.length; i++) {
                for (long number : c.bounds[i].out()) {
                    long[] numbers = c.but(i, number);
                    for (int full = 0; full < 2; full++) {
                        if (full == 1 && !c.bounds[i].isOutOfAll(number)) continue;
                        PennyPost x = busy(full == 1);
                        check.due(c.tell(numbers), c.bounds[i].beyond, c.on(x, numbers));
                        check.holds(c.tell(numbers) + " changes nothing", Arrays.equals(seen[full], look(x)));
                    }
                }
            }
        }
    }

    private static void firstThatFits() {
        for (Call c : CALLS) {
            check.promise(c.promise);
            for (int i = 0; i < c.with.length; i++) {
                for (int j = i + 1; j < c.with.length; j++) {
                    for (long one : c.bounds[i].out()) {
                        for (long other : c.bounds[j].out()) {
                            long[] numbers = c.but(i, one);
                            numbers[j] = other;
                            // of UNKNOWN and OUTSIDE the first is the greater number
                            int due = Math.max(c.bounds[i].beyond, c.bounds[j].beyond);
                            check.due(c.tell(numbers), due, c.on(busy(false), numbers));
                        }
                    }
                }
            }
        }
    }

    /** A refusal that no bound of one number tells, with a post in which it stands. */
    private static void refusal(int promise, boolean full, int due, String name, long... numbers) {
        check.promise(promise);
        Call c = call(promise, name, numbers);
        PennyPost x = busy(full);
        check.due(c.tell(numbers), due, c.on(x, numbers));
        check.holds(c.tell(numbers) + " changes nothing", Arrays.equals(look(busy(full)), look(x)));
    }

    private static void others() {
        refusal(2, false, OUTSIDE, "way", 4, 4, 1, 1, 1, 0, 0);
        refusal(2, false, NOT, "way", 0, 1, 1, 1, 1, 0, 0);
        refusal(2, false, NOT, "way", 2, 1, 200, 40, 24, 23, 999);
        refusal(2, true, NOT, "way", 1, 0, 1, 1, 1, 0, 0);
        refusal(2, true, FULL, "way", 0, 9, 1, 1, 1, 0, 0);
        refusal(6, true, FULL, "write", '1', 1);
        refusal(6, true, FULL, "write", -1, 8);
        refusal(9, true, FULL, "force", 0);
        refusal(9, true, FULL, "force", 1000);
        refusal(14, false, UNKNOWN, "letter", 4, 4, 1, 1, 0, 0, 0);
        refusal(14, false, NOT, "letter", 3, 1, 1, 1, 0, 1, 0);
        refusal(14, false, NOT, "letter", 0, 3, 1, 1, 0, 1, 0);
        refusal(14, true, FULL, "letter", 0, 1, 1, 1, 0, 0, 0);
        refusal(14, true, FULL, "letter", 0, 1, 1, 1, 0, 1, 0);
        refusal(14, true, FULL, "letter", 0, 1, 1, 1, 0, 2, 0);
        refusal(18, false, UNKNOWN, "code", 4, 4, 0);
        refusal(18, false, UNKNOWN, "code", 4, 4, 1);
        for (int bit : new int[] {1, 255, 256, 257, 510, Integer.MIN_VALUE, Integer.MAX_VALUE, -1, -2, -256}) {
            refusal(18, false, OUTSIDE, "code", 4, 5, bit);
        }
        refusal(19, false, OUTSIDE, "set", 7, 0);
        refusal(20, true, FULL, "met", 0, 0, 0);
        for (int letter : new int[] {-1, 5, Integer.MIN_VALUE, Integer.MAX_VALUE}) {
            refusal(21, false, UNKNOWN, "cannot", letter);
        }
        refusal(10, true, UNKNOWN, "knows", 0, 5);
        refusal(16, true, UNKNOWN, "at", 24, 0);
        refusal(21, false, NOT, "cannot", 0);
        refusal(21, false, NOT, "cannot", 1);
        refusal(26, false, OUTSIDE, "path", 4, 4, 1);
        refusal(26, true, FULL, "path", 0, 1, 1);
        refusal(29, false, UNKNOWN, "want", 4, 4, 1, 1, 1);
        refusal(29, true, FULL, "want", 0, 1, 1, 1, 1);
        refusal(33, true, FULL, "price", 0);
        refusal(36, false, LEAST_INT, "judge", 100, 1, 0);
        refusal(36, false, LEAST_INT, "judge", 100L << 28, 5, 1);
        refusal(36, false, LEAST_INT, "judge", -1, 5, 2);
    }

    /** What is NOT or FULL is told only where no number is refused; FULL only where it is not NOT, but for letters. */
    private static void aheadOfNotAndFull() {
        refusal(2, true, UNKNOWN, "way", 0, 10, 1, 1, 1, 0, 0);
        refusal(2, true, UNKNOWN, "way", -1, -1, 0, 0, 0, 0, -1);
        refusal(2, true, OUTSIDE, "way", 1, 1, 1, 1, 1, 0, 0);
        refusal(2, true, OUTSIDE, "way", 1, 0, 1, 1, 1, 1, 0);
        refusal(2, true, OUTSIDE, "way", 0, 9, 1, 1, 1, 0, 1000);
        refusal(6, true, OUTSIDE, "write", 0, 9);
        refusal(9, true, OUTSIDE, "force", 1001);
        refusal(14, true, UNKNOWN, "letter", 3, 3, 0, 0, -1, 1, -1);
        refusal(14, true, UNKNOWN, "letter", 3, 1, 0, 0, -1, 2, 6);
        refusal(14, true, OUTSIDE, "letter", 3, 1, 1, 1, 0, 1, 2400);
        refusal(14, false, OUTSIDE, "letter", 3, 1, 1, 1, 0, 1, 2400);
        refusal(14, false, OUTSIDE, "letter", 3, 1, 1, 1, 201, 1, 0);
        refusal(20, true, UNKNOWN, "met", 6, 0, 9001);
        refusal(20, true, OUTSIDE, "met", 0, 0, 9001);
        refusal(21, true, UNKNOWN, "cannot", 24);
        refusal(26, true, UNKNOWN, "path", 6, 6, 31);
        refusal(26, true, OUTSIDE, "path", 5, 5, 1);
        refusal(29, true, UNKNOWN, "want", 9, 9, 0, 0, 0);
        refusal(29, true, OUTSIDE, "want", 9, 8, 0, 0, 0);
        refusal(33, true, OUTSIDE, "price", 100);
        check.promise(9);
        PennyPost x = busy(true);
        x.erase();
        check.due("a fault ahead of full", NOT, x.force(0));
        check.due("a day ahead of a fault", OUTSIDE, x.force(1001));
    }

    /** Much of what a post answers, then what it does; with what busy() and the call before take it stays below 512 calls. */
    private static int[] look(PennyPost x) {
        List<Integer> seen = new ArrayList<>();
        for (int what = 0; what < 12; what++) {
            seen.add(x.count(what));
        }
        seen.add(x.fault());
        for (int town = 0; town < 10; town++) {
            seen.add(x.far(0, town));
            seen.add(x.due(town, 9 - town, town));
            int purse = x.purse(town, 0);
            x.purse(town, purse);
            seen.add(purse);
            seen.add(x.code(4, town == 4 ? 0 : town, 0));
            seen.add(x.act(town, 9, 2));
            seen.add(x.more(town % 6, 0));
        }
        for (int act = 0; act < 5; act++) {
            seen.add(x.knows(1, act));
            seen.add(x.postage(act, 20, 2, 9, true));
            seen.add(x.under(act, 1));
        }
        for (int letter = 0; letter < 24; letter++) {
            seen.add(x.at(letter, 0));
            seen.add(x.at(letter, 3));
            seen.add(x.cannot(letter));
        }
        for (int what = 0; what < 2; what++) {
            seen.add(x.boxes(7, what));
            seen.add(x.year(3, 2 + what));
            seen.add(x.plan(2, what));
            seen.add(x.judge(1 + (9 << 7) + (1 << 14), 3, what));
        }
        seen.add(x.walk(6));
        seen.add(x.walk(62));
        seen.add(x.planned(2, 1));
        seen.add(x.even());
        seen.add(x.alike(77));
        seen.add(x.alike(0));
        later(x, seen);
        return seen.stream().mapToInt(Integer::intValue).toArray();
    }

    private static void later(PennyPost x, List<Integer> seen) {
        seen.add(x.letter(0, 1, 1, 9, 1, 0, 0));
        seen.add(x.letter(0, 1, 2, 7, 9, 1, 77));
        seen.add(x.hours(17));
        for (int letter = 0; letter < 24; letter++) {
            seen.add(x.at(letter, 4));
            seen.add(x.at(letter, 6));
        }
        seen.add(x.letter(0, 1, 1, 1, 9, 1, 77));
        seen.add(x.forged(77));
        seen.add(x.met(4, 0, 12));
        seen.add(x.way(0, 8, 5, 5, 5, 0, 5));
        seen.add(x.want(0, 8, 5, 5, 5));
        seen.add(x.price(9));
        seen.add(x.path(0, 5, 2));
        seen.add(x.force(4));
        seen.add(x.write(' ', 1));
        seen.add(x.erase());
        seen.add(x.doors(3));
    }
}
