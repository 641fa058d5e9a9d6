/** What the tests share: answers held against those that are due, and calls that need several lines. */
final class Check {
    private final String name;
    private int promise;
    private int asked;
    private int wrong;

    Check(String name) {
        this.name = name;
    }

    /** The promise that the checks from here on stand for. */
    void promise(int number) {
        promise = number;
    }

    void due(String call, long want, long got) {
        asked++;
        if (got == want) return;
        wrong++;
        System.out.println(name + ", promise " + promise + ": " + call + " answered " + got + ", due is " + want);
    }

    void holds(String what, boolean got) {
        asked++;
        if (got) return;
        wrong++;
        System.out.println(name + ", promise " + promise + ": not so: " + what);
    }

    void end() {
        System.out.println(name + ": " + asked + " answers, " + wrong + " not as due");
        if (wrong != 0) System.exit(1);
    }

    /** Appends signs to THE TEXT; the last answer of write(). */
    static int text(PennyPost x, String signs) {
        int answer = 0;
        for (int at = 0; at < signs.length(); at += 8) {
            int n = Math.min(8, signs.length() - at);
            long bytes = 0;
            for (int i = 0; i < n; i++) {
                bytes |= (long) signs.charAt(at + i) << 8 * i;
            }
            answer = x.write(bytes, n);
        }
        return answer;
    }

    /** The number of an act that holds from a day on. */
    static int act(PennyPost x, String signs, int day) {
        text(x, signs);
        return x.force(day);
    }

    /** The fault of a text on a new object. */
    static int faultOf(String signs) {
        PennyPost x = new PennyPost();
        text(x, signs);
        return x.fault();
    }

    /** Throws that go alike in every run, so that a fault that was found can be found again. */
    static final class Dice {
        private long state;

        Dice(long seed) {
            state = seed * 0x9E3779B97F4A7C15L + 1;
        }

        /** One of 0 .. n - 1. */
        int below(int n) {
            state = state * 6364136223846793005L + 1442695040888963407L;
            return (int) ((state >>> 33) % n);
        }

        /** One of least .. most. */
        int from(int least, int most) {
            return least + below(most - least + 1);
        }
    }
}
