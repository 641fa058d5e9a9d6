import java.lang.reflect.Constructor;
import java.lang.reflect.Field;
import java.lang.reflect.InvocationTargetException;
import java.lang.reflect.Method;
import java.lang.reflect.Modifier;
import java.util.Set;
import java.util.TreeSet;

/** The public face, and calls with any numbers at all: none throws, and what is refused changes nothing. */
public final class FaceTest {
    private static final Check check = new Check("FaceTest");
    private static final String[] FACE = {"way 7", "far 2", "due 3", "next 3", "write 2", "erase 0", "fault 0", "force 1", "knows 2",
        "act 3", "postage 5", "why 2", "letter 7", "hours 1", "at 2", "purse 2", "code 3", "set 2", "met 3", "cannot 1", "more 2",
        "alike 1", "forged 1", "doors 1", "path 3", "boxes 2", "walk 1", "want 5", "year 2", "even 0", "under 2", "price 1", "plan 2",
        "planned 2", "judge 3", "count 1"};

    public static void main(String[] args) throws Exception {
        face();
        constants();
        refusals();
        check.end();
    }

    private static void face() {
        check.holds("public and final", PennyPost.class.getModifiers() == (Modifier.PUBLIC | Modifier.FINAL));
        Set<String> names = new TreeSet<>();
        for (Method m : PennyPost.class.getDeclaredMethods()) {
            if (m.isSynthetic() || Modifier.isPrivate(m.getModifiers())) continue;
            check.holds(m.getName() + " is public", Modifier.isPublic(m.getModifiers()) && !Modifier.isStatic(m.getModifiers()));
            check.holds(m.getName() + " answers an int", m.getReturnType() == int.class);
            names.add(m.getName() + " " + m.getParameterCount());
        }
        check.holds("the methods of the document: " + names, names.equals(new TreeSet<>(Set.of(FACE))));
        Constructor<?>[] made = PennyPost.class.getDeclaredConstructors();
        check.holds("one constructor", made.length == 1 && made[0].getParameterCount() == 0 && Modifier.isPublic(made[0].getModifiers()));
    }

    private static void constants() {
        check.due("NONE", -1, PennyPost.NONE);
        check.due("UNKNOWN", -2, PennyPost.UNKNOWN);
        check.due("OUTSIDE", -3, PennyPost.OUTSIDE);
        check.due("NOT", -4, PennyPost.NOT);
        check.due("FULL", -5, PennyPost.FULL);
        int open = 0;
        for (Field f : PennyPost.class.getDeclaredFields()) {
            if (!Modifier.isPrivate(f.getModifiers())) open++;
        }
        check.due("no other field is open", 5, open);
    }

    /** Two posts are told the same but for what the first of them refused; they must answer alike to the end. */
    private static void refusals() throws Exception {
        Check.Dice dice = new Check.Dice(9);
        Method[] methods = new Method[FACE.length];
        for (Method m : PennyPost.class.getDeclaredMethods()) {
            for (int i = 0; i < FACE.length; i++) {
                if (FACE[i].equals(m.getName() + " " + m.getParameterCount())) methods[i] = m;
            }
        }
        for (int run = 0; run < 150; run++) {
            PennyPost told = new PennyPost();
            PennyPost spared = new PennyPost();
            begin(told, run);
            begin(spared, run);
            for (int call = 0; call < 480; call++) {
                Method m = methods[dice.below(methods.length)];
                Object[] with = arguments(m, dice, call % 3 == 0);
                int answer = answer(told, m, with);
                if (answer >= -1 || answer > Integer.MIN_VALUE && answer < -5) {
                    check.due("run " + run + ", call " + call + " " + m.getName(), answer, answer(spared, m, with));
                }
            }
        }
    }

    private static void begin(PennyPost x, int run) {
        if (run % 5 == 0) return;
        x.way(0, 1, 10, 2, 1, 0, 9);
        x.way(1, 2, 10, 2, 3, 0, 9);
        Check.act(x, "to 15 pay 2; over 5 pay 1; free 1", 0);
        x.doors(5);
        x.hours(9);
    }

    private static int answer(PennyPost x, Method m, Object[] with) throws Exception {
        try {
            return (Integer) m.invoke(x, with);
        } catch (InvocationTargetException e) {
            check.holds(m.getName() + java.util.Arrays.toString(with) + " throws " + e.getCause(), false);
            return 0;
        }
    }

    private static Object[] arguments(Method m, Check.Dice dice, boolean wild) {
        Class<?>[] types = m.getParameterTypes();
        Object[] with = new Object[types.length];
        for (int i = 0; i < types.length; i++) {
            int v = wild ? wild(dice) : dice.below(dice.below(3) == 0 ? 12 : 4);
            if (types[i] == boolean.class) with[i] = v % 2 == 0;
            else if (types[i] == long.class) with[i] = wild ? (long) wild(dice) << 32 ^ v : (long) v;
            else with[i] = v;
        }
        return with;
    }

    private static int wild(Check.Dice dice) {
        int[] edges = {Integer.MIN_VALUE, Integer.MAX_VALUE, -1, -2, 9, 10, 24, 64, 99, 100, 200, 201, 1000, 2400, 9000, 9001, 20000, 20001};
        int kind = dice.below(4);
        if (kind == 0) return dice.below(8);
        if (kind == 1) return dice.below(300);
        if (kind == 2) return dice.below(1 << 30) * 4 + dice.below(4);
        return edges[dice.below(edges.length)];
    }
}
