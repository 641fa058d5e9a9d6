import java.lang.reflect.InvocationTargetException;
import java.lang.reflect.Method;
import java.util.ArrayList;
import java.util.Arrays;
import java.util.List;
import java.util.Map;
import java.util.TreeMap;

/** Promises 1 to 37: posts that live for 512 calls of all sorts, right and wrong ones, each answer held against PlainPost. */
public final class WholeTest {
    private static final Check check = new Check("WholeTest");
    private static final int RUNS = 300, CALLS = 512;
    private static final String[] PROMISES = {"way", "far", "due", "next", "write", "erase", "fault", "force", "knows", "act", "postage",
        "why", "letter", "hours", "at", "purse", "code", "set", "met", "cannot", "more", "alike", "forged", "doors", "path", "boxes",
        "walk", "want", "year", "even", "under", "price", "plan", "planned", "judge", "count"};
    private static final String[] WORDS = {"to", "over", "weigh", "free", "ahead", "least", "pay", ";", "7", "100", "1000", "0", "t", "!"};
    private static final Map<String, Method> MINE = methods(PennyPost.class);
    private static final Map<String, Method> PLAIN = methods(PlainPost.class);

    private final PennyPost x = new PennyPost();
    private final PlainPost plain = new PlainPost();
    private final Check.Dice dice;
    private final int run;
    /** Few towns and stamps make letters meet, many make them miss. */
    private final int towns;
    private final int stamps;
    /** What of the calls this run makes more of. */
    private final String[] liked = new String[9];
    private final List<String> calls = new ArrayList<>();
    private boolean differs;

    private WholeTest(int run) {
        this.run = run;
        dice = new Check.Dice(1000 + run);
        towns = dice.from(2, 10);
        stamps = dice.from(1, 4);
        for (int i = 0; i < liked.length; i++) {
            liked[i] = PROMISES[dice.below(PROMISES.length)];
        }
    }

    public static void main(String[] args) {
        check.promise(1);
        check.holds("every call is known to the plain post too", MINE.keySet().equals(PLAIN.keySet()));
        check.due("calls", PROMISES.length, MINE.size());
        for (int run = 0; run < RUNS; run++) {
            new WholeTest(run).live();
        }
        check.end();
    }

    private static Map<String, Method> methods(Class<?> c) {
        Map<String, Method> found = new TreeMap<>();
        for (Method m : c.getMethods()) {
            if (m.getDeclaringClass() == c) found.put(m.getName() + Arrays.toString(m.getParameterTypes()), m);
        }
        return found;
    }

    private void live() {
        for (int i = dice.below(towns + 2); i > 0; i--) {
            ask("way");
        }
        if (dice.below(2) == 0) tellAct();
        while (calls.size() < CALLS && !differs) {
            int kind = dice.below(20);
            if (kind == 0 && !soBusy()) tellAct();
            else if (kind < 3) ask("hours");
            else if (kind < 5) ask("letter");
            else if (kind < 12) ask(liked[dice.below(liked.length)]);
            else ask(PROMISES[dice.below(PROMISES.length)]);
        }
    }

    private boolean soBusy() {
        return calls.size() > CALLS - 30;
    }

    private void ask(String name) {
        for (Map.Entry<String, Method> e : MINE.entrySet()) {
            if (!e.getValue().getName().equals(name)) continue;
            Object[] with = arguments(name, e.getValue().getParameterTypes());
            if (dice.below(16) == 0) spoil(with);
            call(e.getKey(), name, with);
        }
    }

    private void call(String key, String name, Object... with) {
        if (calls.size() >= CALLS || differs) return;
        calls.add(name + Arrays.toString(with));
        int want = answer(PLAIN.get(key), plain, with);
        int got = answer(MINE.get(key), x, with);
        check.promise(2 + Arrays.asList(PROMISES).indexOf(name));
        check.due("run " + run + ", call " + calls.size() + ", " + calls.get(calls.size() - 1), want, got);
        if (want == got) return;
        differs = true;
        System.out.println("the calls of run " + run + ": " + calls);
    }

    private static int answer(Method m, Object post, Object[] with) {
        try {
            return (Integer) m.invoke(post, with);
        } catch (IllegalAccessException | InvocationTargetException e) {
            throw new IllegalStateException(m.getName() + Arrays.toString(with), e);
        }
    }

    /** A text of clauses, some of them wrong, and what is asked of it. */
    private void tellAct() {
        StringBuilder text = new StringBuilder();
        for (int i = dice.from(1, dice.below(4) == 0 ? 9 : 4); i > 0; i--) {
            text.append(clause()).append(i > 1 ? blanks() + ";" + blanks() : "");
        }
        if (dice.below(4) == 0) text.insert(dice.below(text.length() + 1), WORDS[dice.below(WORDS.length)]);
        for (int at = 0; at < text.length();) {
            int n = Math.min(dice.from(1, 8), text.length() - at);
            long bytes = (long) dice.below(1 << 30) << 40 & (n == 8 ? 0 : -1L << 8 * n);
            for (int i = 0; i < n; i++) {
                bytes |= (long) text.charAt(at + i) << 8 * i;
            }
            call("write[long, int]", "write", bytes, n);
            at += n;
        }
        ask("fault");
        ask("force");
        if (dice.below(3) > 0) ask("erase");
    }

    private String clause() {
        String kind = WORDS[dice.below(6)];
        String number = " " + blanks() + dice.from(1, kind.equals("to") ? 80 : kind.equals("over") ? 40 : kind.equals("weigh") ? 20 : 3);
        boolean pays = kind.equals("to") || kind.equals("over");
        return kind + number + (pays ? blanks() + " pay " + dice.below(dice.below(3) == 0 ? 30 : 5) : "");
    }

    private String blanks() {
        return " ".repeat(dice.below(3) == 0 ? dice.below(4) : 0);
    }

    private Object[] arguments(String name, Class<?>[] types) {
        int[] n = switch (name) {
            case "way" -> {
                int every = dice.from(1, dice.below(2) == 0 ? 3 : 24);
                yield ints(town(), town(), dice.from(1, 50), dice.from(1, 12), every, dice.below(every), dice.below(200));
            }
            case "far" -> ints(town(), town());
            case "due", "next" -> ints(town(), town(), dice.below(300));
            case "write" -> ints(dice.from(32, 122), 1);
            case "force" -> ints(dice.below(dice.below(2) == 0 ? 1 : 20));
            case "knows" -> ints(town(), act());
            case "act" -> ints(town(), dice.below(300), dice.below(25));
            case "postage" -> ints(act(), dice.below(250), dice.from(1, 9), dice.from(1, 64), dice.below(2));
            case "why" -> ints(act(), dice.below(200));
            case "letter" -> letter(dice.below(3));
            case "hours" -> ints(dice.from(1, dice.below(4) == 0 ? 60 : 9));
            case "at" -> ints(dice.below(Math.max(1, plain.count(3))), dice.below(7));
            case "purse" -> ints(town(), dice.below(400));
            case "code" -> ints(town(), town(), dice.below(128) * 2);
            case "set" -> rule(dice.below(7));
            case "met" -> ints(dice.below(6), town(), dice.below(plain.count(0) + 40));
            case "cannot" -> ints(dice.below(Math.max(1, plain.count(3))));
            case "more" -> ints(dice.below(6), dice.below(plain.count(0) / 168 + 1));
            case "alike", "forged" -> ints(dice.below(stamps));
            case "doors" -> ints(dice.from(dice.below(2) == 0 ? 1 : 6, 12));
            case "path" -> ints(dice.below(4), dice.below(7), dice.from(1, 30));
            case "boxes" -> ints(dice.below(70), dice.below(2));
            case "walk" -> ints(dice.below(1 << dice.from(0, 7)));
            case "want" -> ints(town(), town(), dice.from(1, 500), dice.below(dice.below(2) == 0 ? 12 : 100), dice.below(61));
            case "year" -> ints(dice.below(30), dice.below(4));
            case "under" -> ints(act(), dice.below(2));
            case "price" -> ints(dice.below(12));
            case "plan" -> ints(dice.from(1, 5), dice.below(2));
            case "planned" -> ints(dice.from(1, 5), dice.below(3));
            case "judge" -> ints(dice.below(20) | dice.below(20) << 7 | dice.below(20) << 14, dice.from(1, 5), dice.below(3));
            case "count" -> ints(dice.below(12));
            default -> ints();
        };
        Object[] with = new Object[types.length];
        for (int i = 0; i < types.length; i++) {
            with[i] = types[i] == long.class ? (Object) (long) n[i] : types[i] == boolean.class ? (Object) (n[i] == 1) : (Object) n[i];
        }
        return with;
    }

    private static int[] ints(int... n) {
        return n;
    }

    private int town() {
        return dice.below(towns);
    }

    private int act() {
        return dice.below(Math.max(1, plain.count(2)));
    }

    private int[] letter(int kind) {
        int with = kind == 0 ? dice.below(8) : kind == 1 ? dice.below(stamps) : dice.below(3);
        return ints(town(), town(), dice.from(1, 9), dice.from(1, 64), dice.below(dice.below(2) == 0 ? 12 : 100), kind, with);
    }

    private int[] rule(int what) {
        int[] most = {2, dice.below(2) == 0 ? 9 : 60, 20000, 99, 9, 40000, 40};
        return ints(what, dice.below(most[what] + 1) - (what == 5 ? 20000 : what == 6 ? 1 : 0));
    }

    /** One of the numbers becomes any number at all, mostly one near a bound. */
    private void spoil(Object[] with) {
        if (with.length == 0) return;
        int[] edges = {-2, -1, 0, 1, 6, 7, 8, 9, 10, 12, 30, 60, 64, 65, 99, 100, 200, 201, 500, 999, 1000, 1001, 2399, 2400, 5000, 5001, 9000,
            20000, 20001, 30000, 30001, 100000, 1000000, Integer.MIN_VALUE, Integer.MAX_VALUE};
        int place = dice.below(with.length);
        int v = edges[dice.below(edges.length)];
        if (with[place] instanceof Integer) with[place] = v;
        if (with[place] instanceof Long) with[place] = (long) v << dice.below(40);
    }
}
