/** Promises 14 to 19 and 37: letters, hours, purses, codes, what is set and counted. */
public final class LettersTest {
    private static final Check check = new Check("LettersTest");

    public static void main(String[] args) {
        refusedLetters();
        paidLetters();
        fullOfLetters();
        theHour();
        onTheWay();
        owing();
        refusing();
        goingBack();
        nothingOwed();
        byNumbers();
        codeAtTheDoor();
        lastHour();
        frankedFree();
        wordAtTheDoor();
        partedByKeys();
        partedRests();
        twoEnds();
        fullRun();
        lookingAt();
        purses();
        codes();
        setting();
        counting();
        sums();
        check.end();
    }

    /** Towns 0 and 1, an hour apart in every hour, and an act known in both by hour 1. */
    private static PennyPost pair(String act) {
        PennyPost x = new PennyPost();
        x.way(0, 1, 10, 1, 1, 0, 0);
        Check.act(x, act, 0);
        x.hours(1);
        return x;
    }

    private static void refusedLetters() {
        check.promise(14);
        PennyPost x = new PennyPost();
        check.due("town", -2, x.letter(-1, 1, 0, 1, 0, 0, 0));
        check.due("town", -2, x.letter(0, 10, 1, 1, 0, 0, 0));
        check.due("one and itself", -2, x.letter(3, 3, 1, 1, 0, 0, 0));
        check.due("member", -2, x.letter(0, 1, 0, 0, 0, 2, 6));
        check.due("member", -2, x.letter(0, 1, 1, 1, 0, 2, -1));
        int[][] outside = {{0, 1, 0, 0, 0}, {10, 1, 0, 0, 0}, {1, 0, 0, 0, 0}, {1, 65, 0, 0, 0}, {1, 1, -1, 0, 0}, {1, 1, 201, 0, 0},
            {1, 1, 0, -1, 0}, {1, 1, 0, 3, 0}, {1, 1, 0, 0, -1}, {1, 1, 0, 0, 8}, {1, 1, 0, 1, -1}, {1, 1, 0, 1, 2400}, {1, 1, 0, 3, 9}};
        for (int[] o : outside) {
            check.due("letter " + java.util.Arrays.toString(o), -3, x.letter(0, 1, o[0], o[1], o[2], o[3], o[4]));
        }
        check.due("none", 0, x.count(3));
        check.due("least", 0, x.letter(0, 1, 1, 1, 0, 0, 0));
        check.due("most", 1, x.letter(9, 8, 9, 64, 200, 0, 7));
        check.due("franked", 2, x.letter(9, 8, 9, 64, 200, 2, 5));
        check.due("three", 3, x.count(3));
    }

    private static void paidLetters() {
        check.promise(14);
        PennyPost x = new PennyPost();
        x.way(0, 1, 10, 1, 1, 0, 0);
        x.way(1, 2, 11, 1, 1, 0, 0);
        check.due("no act", -4, x.letter(0, 1, 1, 1, 0, 1, 0));
        Check.act(x, "to 10 pay 50; ahead 2", 0);
        Check.act(x, "to 10 pay 60; to 30 pay 9; ahead 2", 1);
        check.due("paid", 0, x.letter(0, 1, 4, 1, 0, 1, 2399));
        check.due("50 times 4, less 2", 198, x.at(0, 3));
        check.due("stamp outside ahead of the purse", -3, x.letter(0, 1, 1, 1, 0, 1, 2400));
        check.due("the purse has less", -4, x.letter(0, 1, 1, 1, 0, 1, 0));
        check.due("no pence so far", -4, x.letter(0, 2, 1, 1, 0, 1, 0));
        check.due("not joined", -4, x.letter(0, 3, 1, 1, 0, 1, 0));
        check.due("no word of the act there", -4, x.letter(1, 0, 1, 1, 0, 1, 0));
        check.due("purse", 2, x.purse(0, 48));
        check.due("just enough", 1, x.letter(0, 1, 1, 1, 0, 1, 0));
        check.due("empty", 0, x.purse(0, 47));
        check.due("a penny less", -4, x.letter(0, 1, 1, 1, 0, 1, 0));
        check.due("nothing changed", 47, x.purse(0, 200));
        check.due("all paid", 246, x.count(5));
        x.hours(23);
        check.due("day 0 still", 2, x.letter(0, 1, 1, 1, 0, 1, 0));
        check.due("by the first act", 48, x.at(2, 3));
        x.hours(1);
        check.due("day 1", 3, x.letter(0, 1, 1, 1, 0, 1, 0));
        check.due("by the second act", 58, x.at(3, 3));
        check.due("from town 1 too", 4, x.letter(1, 0, 1, 1, 0, 1, 0));
        check.due("out of its own purse", 142, x.purse(1, 0));
        check.due("plain, with an empty purse", 5, x.letter(1, 0, 1, 1, 0, 0, 0));
        check.due("nothing is paid for it", 0, x.at(5, 3));
    }

    private static void fullOfLetters() {
        check.promise(14);
        PennyPost x = new PennyPost();
        for (int i = 0; i < 24; i++) {
            check.due("letter " + i, i, x.letter(0, 1, 1, 1, 0, i % 2 * 2, 0));
        }
        check.due("full", -5, x.letter(0, 1, 1, 1, 0, 0, 0));
        check.due("full ahead of not", -5, x.letter(0, 1, 1, 1, 0, 1, 0));
        check.due("outside ahead of full", -3, x.letter(0, 1, 1, 1, 0, 0, 8));
        check.due("unknown ahead of full", -2, x.letter(0, 0, 1, 1, 0, 0, 8));
        check.due("24", 24, x.count(3));
    }

    private static void theHour() {
        check.promise(15);
        PennyPost x = new PennyPost();
        check.due("0", -3, x.hours(0));
        check.due("61", -3, x.hours(61));
        check.due("1", 1, x.hours(1));
        for (int i = 0; i < 149; i++) {
            x.hours(60);
        }
        check.due("58", 8999, x.hours(58));
        check.due("beyond 9000", -3, x.hours(2));
        check.due("no hour went by", 8999, x.count(0));
        check.due("9000", 9000, x.hours(1));
        check.due("beyond 9000", -3, x.hours(1));
    }

    private static void onTheWay() {
        check.promise(15);
        PennyPost x = new PennyPost();
        x.way(0, 1, 10, 3, 6, 2, 7);
        x.way(1, 2, 10, 2, 6, 5, 7);
        x.letter(0, 2, 1, 1, 0, 0, 0);
        x.letter(0, 3, 1, 1, 0, 0, 0);
        x.hours(2);
        check.due("leaves in hour 2 only", 0, x.at(0, 0));
        x.hours(1);
        check.due("on a way", 1, x.at(0, 0));
        check.due("was last in", 0, x.at(0, 1));
        x.hours(2);
        check.due("comes in hour 5, that has not gone by", 1, x.at(0, 0));
        x.hours(1);
        check.due("leaves in the hour in which it comes", 1, x.at(0, 0));
        check.due("was last in", 1, x.at(0, 1));
        check.due("two runs", 14, x.at(0, 4));
        x.hours(2);
        check.due("given", 2, x.at(0, 0));
        check.due("in", 2, x.at(0, 1));
        check.due("hour", 7, x.at(0, 6));
        check.due("nowhere to go", 0, x.at(1, 0));
        x.way(2, 3, 10, 2, 1, 0, 7);
        x.letter(2, 0, 1, 1, 0, 0, 0);
        x.hours(60);
        check.due("went by the later way", 2, x.at(1, 0));
        check.due("hour", 15, x.at(1, 6));
        check.due("the other direction", 2, x.at(2, 0));
        check.due("hour", 17, x.at(2, 6));
    }

    /** What a letter from 0 to 1 owes, as what is paid for it; 999 where it was refused. */
    private static int owed(String act, int sheets, int drams, int kind, int with) {
        PennyPost x = pair(act);
        x.letter(0, 1, sheets, drams, 200, kind, with);
        x.hours(2);
        return x.at(0, 0) == 2 ? x.at(0, 3) : 999;
    }

    private static void owing() {
        check.promise(15);
        check.due("plain", 5, owed("to 10 pay 5", 1, 1, 0, 0));
        check.due("sheets", 45, owed("to 10 pay 5", 9, 1, 0, 0));
        check.due("weighed", 20, owed("to 10 pay 5; weigh 16", 9, 64, 0, 0));
        check.due("not ahead", 5, owed("to 10 pay 5; ahead 5", 1, 1, 0, 0));
        check.due("no pence", 0, owed("to 9 pay 5", 1, 1, 0, 0));
        check.due("no act yet", 0, owed("", 1, 1, 0, 0));
        check.due("franked, none free", 5, owed("to 10 pay 5", 1, 1, 2, 0));
        check.due("franked, one free", 0, owed("to 10 pay 5; free 1", 1, 1, 2, 0));
        check.due("plain is never free", 5, owed("to 10 pay 5; free 99", 1, 1, 0, 0));
        check.due("paid ahead, nothing more", 3, owed("to 10 pay 5; ahead 2", 1, 1, 1, 0));
        check.due("the worth and the purse", 200, owed("to 10 pay 25", 8, 1, 0, 0));
        check.due("more than both", 999, owed("to 10 pay 99", 3, 1, 0, 0));
    }

    /** Whether a letter from 0 to 1 that owes 5 for a sheet is refused. */
    private static int refused(int sheets, int worth, int purse, int kind, int with, int marks) {
        PennyPost x = pair("to 10 pay 5");
        x.letter(0, 1, sheets, 1, worth, kind, with);
        x.purse(1, purse);
        x.code(0, 1, marks);
        x.code(1, 0, 254 - marks);
        x.hours(2);
        int left = x.purse(1, 0);
        check.due("purse", x.at(0, 2) == 1 ? purse : purse - x.at(0, 3), left);
        check.due("refused are not given", 1 - x.at(0, 2), x.count(8));
        check.due("counted", x.at(0, 2), x.count(7));
        return x.at(0, 2);
    }

    private static void refusing() {
        check.promise(15);
        check.due("worth it", 0, refused(1, 5, 5, 0, 0, 0));
        check.due("not worth it", 1, refused(1, 4, 5, 0, 0, 0));
        check.due("not in the purse", 1, refused(1, 5, 4, 0, 0, 0));
        check.due("franked, not worth it", 1, refused(1, 4, 5, 2, 3, 0));
        check.due("mark in the code", 1, refused(1, 5, 5, 0, 1, 2));
        check.due("mark 7 in the code", 1, refused(1, 5, 5, 0, 7, 128));
        check.due("mark not in the code", 0, refused(1, 5, 5, 0, 2, 250));
        check.due("no mark is in no code", 0, refused(1, 5, 5, 0, 0, 254));
        check.due("a member is no mark", 0, refused(1, 5, 5, 2, 3, 8));
        PennyPost x = pair("free 1");
        x.code(0, 1, 254);
        x.letter(0, 1, 1, 1, 0, 0, 4);
        x.hours(2);
        check.due("with nothing to pay the mark is read and the letter taken", 2, x.at(0, 0));
    }

    private static void goingBack() {
        check.promise(15);
        PennyPost x = pair("to 10 pay 5");
        x.letter(0, 1, 1, 1, 4, 0, 0);
        x.hours(2);
        check.due("refused in hour 2, it leaves in it", 1, x.at(0, 0));
        check.due("was last in", 1, x.at(0, 1));
        check.due("not back yet", -1, x.at(0, 6));
        x.purse(0, 0);
        x.hours(1);
        check.due("back", 3, x.at(0, 0));
        check.due("in", 0, x.at(0, 1));
        check.due("hour", 3, x.at(0, 6));
        check.due("nothing was paid", 0, x.at(0, 3));
        check.due("it stays refused", 1, x.at(0, 2));
        x.hours(60);
        check.due("it stays", 0, x.at(0, 1));
        check.due("hour", 3, x.at(0, 6));
        check.due("one refused", 1, x.count(7));
        check.due("none given", 0, x.count(8));
    }

    /** What owes nothing is taken, whatever it is worth, with an empty purse and a mark in the code. */
    private static void nothingOwed() {
        check.promise(15);
        PennyPost x = pair("to 10 pay 0; free 1");
        x.letter(0, 1, 9, 64, 0, 0, 7);
        x.letter(0, 1, 9, 64, 0, 2, 5);
        x.letter(0, 1, 9, 64, 0, 2, 5);
        x.letter(0, 1, 9, 64, 0, 1, 5);
        x.code(0, 1, 254);
        x.purse(1, 0);
        x.hours(2);
        for (int i = 0; i < 4; i++) {
            check.due("given " + i, 2, x.at(i, 0));
            check.due("not refused " + i, 0, x.at(i, 2));
            check.due("paid " + i, 0, x.at(i, 3));
        }
        check.due("all paid", 0, x.count(5));
        check.due("no refused ones", 0, x.count(7));
        check.due("the purse", 0, x.purse(1, 0));
    }

    /** Letters at a door are paid for by their numbers, as long as the purse lasts. */
    private static void byNumbers() {
        check.promise(15);
        PennyPost x = pair("to 10 pay 5");
        x.letter(0, 1, 2, 1, 200, 0, 0);
        x.letter(0, 1, 2, 1, 200, 0, 0);
        x.letter(0, 1, 1, 1, 200, 2, 0);
        x.letter(0, 1, 1, 1, 200, 0, 0);
        x.letter(0, 1, 1, 1, 200, 1, 0);
        x.purse(1, 15);
        x.hours(2);
        int[] refused = {0, 1, 0, 1, 0};
        int[] paid = {10, 0, 5, 0, 5};
        for (int i = 0; i < refused.length; i++) {
            check.due("refused " + i, refused[i], x.at(i, 2));
            check.due("paid " + i, paid[i], x.at(i, 3));
        }
        check.due("nothing is left", 0, x.purse(1, 200));
        check.due("the stamp was paid at the other end", 195, x.purse(0, 200));
        x.hours(1);
        check.due("a full purse behind the hour does not help", 3, x.at(1, 0));
        check.due("all paid", 20, x.count(5));
    }

    /** The code of the hour in which a letter is at the door decides, not that in which it was written. */
    private static void codeAtTheDoor() {
        check.promise(18);
        for (int late = 0; late < 2; late++) {
            PennyPost x = pair("to 10 pay 5");
            x.code(0, 1, late == 0 ? 8 : 0);
            x.letter(0, 1, 1, 1, 200, 0, 3);
            x.hours(1);
            check.due("what it was", late == 0 ? 8 : 0, x.code(0, 1, late == 0 ? 0 : 8));
            x.hours(1);
            check.due("refused, told later: " + late, late, x.at(0, 2));
        }
    }

    /** No hour goes by from hour 9000 on. */
    private static void lastHour() {
        check.promise(15);
        PennyPost x = pair("to 10 pay 5");
        for (int hour = 1; hour < 8998; hour += 60) {
            x.hours(Math.min(60, 8998 - hour));
        }
        x.letter(0, 1, 1, 1, 200, 0, 0);
        x.hours(1);
        x.letter(0, 1, 1, 1, 200, 0, 0);
        check.due("9000", 9000, x.hours(1));
        check.promise(14);
        check.due("written in hour 9000", 2, x.letter(0, 1, 1, 1, 200, 0, 0));
        check.promise(16);
        check.due("given", 2, x.at(0, 0));
        check.due("in hour 8999", 8999, x.at(0, 6));
        check.due("comes in hour 9000", 1, x.at(1, 0));
        check.due("waits", 0, x.at(2, 0));
        check.due("written", 9000, x.at(2, 5));
        check.promise(15);
        check.due("no hour more", -3, x.hours(1));
        check.due("comes in hour 9000", 1, x.at(1, 0));
        check.promise(22);
        check.due("no such week", -3, x.more(0, 61));
        check.due("hour 9000 is in week 53", 53, 9000 / 24 / 7);
        x.letter(0, 1, 1, 1, 200, 2, 0);
        check.due("one", 1, x.more(0, 53));
        check.due("not in the week ahead", 0, x.more(0, 52));
    }

    private static void frankedFree() {
        check.promise(15);
        PennyPost x = pair("to 10 pay 5; free 2");
        for (int i = 0; i < 6; i++) {
            x.letter(0, 1, 1, 1, 200, i == 3 ? 0 : 2, 4);
        }
        x.letter(0, 1, 1, 1, 200, 2, 5);
        x.hours(2);
        int[] paid = {0, 0, 5, 5, 5, 5, 0};
        for (int i = 0; i < paid.length; i++) {
            check.due("paid for " + i, paid[i], x.at(i, 3));
        }
        for (int h = 3; h < 168; h += 55) {
            x.hours(55);
        }
        check.due("the week behind", 168, x.count(0));
        x.letter(0, 1, 1, 1, 200, 2, 4);
        x.letter(0, 1, 1, 1, 200, 2, 4);
        x.letter(0, 1, 1, 1, 200, 2, 4);
        x.hours(2);
        check.due("first of its week", 0, x.at(7, 3));
        check.due("second of its week", 0, x.at(8, 3));
        check.due("third of its week", 5, x.at(9, 3));
        PennyPost y = new PennyPost();
        y.way(0, 1, 10, 1, 24, 0, 0);
        Check.act(y, "to 10 pay 5; free 1", 0);
        y.hours(60);
        y.hours(60);
        y.hours(47);
        y.letter(0, 1, 1, 1, 200, 2, 4);
        y.hours(1);
        y.letter(0, 1, 1, 1, 200, 2, 4);
        y.hours(2);
        check.due("written in the week before", 0, y.at(0, 3));
        check.due("though both come in this one", 0, y.at(1, 3));
        check.due("both", 2, y.count(8));
    }

    /** Word of the second act comes with the letter to town 1, and the third holds from the next day on. */
    private static void wordAtTheDoor() {
        check.promise(15);
        PennyPost x = new PennyPost();
        x.way(0, 1, 10, 2, 1, 0, 0);
        Check.act(x, "to 10 pay 3", 0);
        Check.act(x, "to 10 pay 7", 1);
        x.hours(21);
        x.letter(0, 1, 1, 1, 200, 0, 0);
        x.hours(1);
        x.letter(0, 1, 1, 1, 200, 0, 0);
        Check.act(x, "to 10 pay 4", 0);
        x.letter(1, 0, 1, 1, 200, 0, 0);
        x.hours(3);
        check.due("day 0, the last act not yet known there", 3, x.at(0, 3));
        check.due("day 1", 7, x.at(1, 3));
        check.due("to town 0", 7, x.at(2, 3));
        PennyPost y = new PennyPost();
        y.way(0, 1, 10, 2, 1, 0, 0);
        Check.act(y, "to 10 pay 3", 0);
        y.hours(2);
        y.letter(0, 1, 1, 1, 200, 0, 0);
        y.letter(1, 0, 1, 1, 200, 0, 0);
        y.hours(1);
        Check.act(y, "to 10 pay 9", 0);
        y.hours(2);
        check.due("the new act is on its way to town 1", 3, y.at(0, 3));
        check.due("and is known in town 0", 9, y.at(1, 3));
    }

    private static PennyPost run(int key, int cost, int[] sheets, int[] drams) {
        PennyPost x = new PennyPost();
        x.way(0, 1, 10, 5, 1, 0, cost);
        x.set(0, key);
        for (int i = 0; i < sheets.length; i++) {
            x.letter(0, 1, sheets[i], drams[i], 0, 0, 0);
        }
        x.hours(1);
        check.due("what the run cost", cost, x.count(6));
        return x;
    }

    private static void borne(PennyPost x, String what, int... want) {
        for (int i = 0; i < want.length; i++) {
            check.due(what + ": borne by " + i, want[i], x.at(i, 4));
        }
    }

    private static void partedByKeys() {
        check.promise(15);
        int[] sheets = {1, 9, 2};
        int[] drams = {20, 10, 30};
        borne(run(0, 90, sheets, drams), "alike", 30, 30, 30);
        borne(run(1, 90, sheets, drams), "by drams", 30, 15, 45);
        borne(run(2, 96, sheets, drams), "by sheets", 8, 72, 16);
        PennyPost x = run(0, 90, sheets, drams);
        x.set(0, 2);
        x.letter(0, 1, 1, 1, 0, 0, 0);
        x.letter(0, 1, 2, 1, 0, 0, 0);
        x.hours(1);
        borne(x, "each run by the key of its hour", 30, 30, 30, 30, 60);
        check.due("both runs", 180, x.count(6));
    }

    private static void partedRests() {
        check.promise(15);
        int[] alike = {1, 1, 1};
        borne(run(0, 100, alike, alike), "one rests", 34, 33, 33);
        borne(run(0, 101, alike, alike), "two rest", 34, 34, 33);
        borne(run(0, 2, alike, alike), "less than a penny each", 1, 1, 0);
        borne(run(0, 0, alike, alike), "nothing", 0, 0, 0);
        borne(run(2, 10, new int[] {1, 2, 4}, alike), "most was cut off", 1, 3, 6);
        borne(run(2, 11, new int[] {5, 3, 3}, alike), "nothing was cut off", 5, 3, 3);
        borne(run(1, 7, alike, new int[] {5, 6, 6}), "of several the least", 2, 3, 2);
        borne(run(2, 999, new int[] {9}, new int[] {1}), "all", 999);
    }

    private static void twoEnds() {
        check.promise(15);
        PennyPost x = new PennyPost();
        x.way(0, 1, 10, 1, 2, 0, 11);
        x.way(0, 2, 10, 1, 1, 0, 5);
        x.letter(0, 1, 1, 1, 0, 0, 0);
        x.letter(1, 0, 1, 1, 0, 0, 0);
        x.letter(0, 1, 1, 1, 0, 0, 0);
        x.letter(0, 2, 1, 1, 0, 0, 0);
        x.hours(1);
        borne(x, "each end of each way", 6, 11, 5, 5);
        check.due("three runs", 27, x.count(6));
        x.letter(2, 0, 1, 1, 0, 0, 0);
        x.letter(0, 2, 1, 1, 0, 0, 0);
        x.hours(1);
        borne(x, "both ends of the second way", 6, 11, 5, 5, 5, 5);
        check.due("five runs", 37, x.count(6));
        x.hours(4);
        check.due("no run without letters", 37, x.count(6));
    }

    /** All 24 letters in one run. */
    private static void fullRun() {
        check.promise(15);
        for (int cost : new int[] {0, 1, 23, 24, 25, 999}) {
            int[] sheets = new int[24];
            int[] drams = new int[24];
            for (int i = 0; i < 24; i++) {
                sheets[i] = i % 9 + 1;
                drams[i] = 64 - i;
            }
            PennyPost x = run(0, cost, sheets, drams);
            for (int i = 0; i < 24; i++) {
                check.due("cost " + cost + ": borne by " + i, cost / 24 + (i < cost % 24 ? 1 : 0), x.at(i, 4));
            }
            for (int key = 1; key < 3; key++) {
                PennyPost y = run(key, cost, sheets, drams);
                int sum = 0;
                for (int i = 0; i < 24; i++) {
                    int all = key == 1 ? 64 * 24 - 276 : 45 + 45 + 21;
                    int whole = cost * (key == 1 ? drams[i] : sheets[i]) / all;
                    check.holds("a penny more at most", y.at(i, 4) == whole || y.at(i, 4) == whole + 1);
                    sum += y.at(i, 4);
                }
                check.due("cost " + cost + ", key " + key, cost, sum);
            }
        }
    }

    private static void lookingAt() {
        check.promise(16);
        PennyPost x = pair("to 10 pay 5");
        check.due("no letter", -2, x.at(0, 9));
        x.hours(3);
        x.letter(0, 1, 2, 1, 200, 0, 0);
        int[] fresh = {0, 0, 0, 0, 0, 4, -1};
        for (int what = 0; what < 7; what++) {
            check.due("new: " + what, fresh[what], x.at(0, what));
        }
        x.hours(2);
        int[] given = {2, 1, 0, 10, 0, 4, 5};
        for (int what = 0; what < 7; what++) {
            check.due("given: " + what, given[what], x.at(0, what));
        }
        check.due("no letter", -2, x.at(1, 0));
        check.due("no letter", -2, x.at(-1, 7));
        check.due("what", -3, x.at(0, -1));
        check.due("what", -3, x.at(0, 7));
    }

    private static void purses() {
        check.promise(17);
        PennyPost x = new PennyPost();
        for (int town = 0; town < 10; town++) {
            check.due("at first", 200, x.purse(town, 200));
        }
        check.due("at first", 200, x.purse(0, 0));
        check.due("then", 0, x.purse(0, 30000));
        check.due("then", 30000, x.purse(0, 1));
        check.due("another", 200, x.purse(9, 7));
        check.due("no town", -2, x.purse(10, -1));
        check.due("no town", -2, x.purse(-1, 0));
        check.due("outside", -3, x.purse(0, -1));
        check.due("outside", -3, x.purse(0, 30001));
        check.due("nothing changed", 1, x.purse(0, 2));
    }

    private static void codes() {
        check.promise(18);
        PennyPost x = new PennyPost();
        check.due("none at first", 0, x.code(0, 1, 254));
        check.due("then", 254, x.code(0, 1, 2));
        check.due("the other direction", 0, x.code(1, 0, 8));
        check.due("then", 2, x.code(0, 1, 0));
        check.due("bit 0", -3, x.code(0, 1, 1));
        check.due("bit 8", -3, x.code(0, 1, 256));
        check.due("all bits", -3, x.code(1, 0, -1));
        check.due("no town", -2, x.code(10, 0, 1));
        check.due("no town", -2, x.code(0, -1, 0));
        check.due("one and itself", -2, x.code(3, 3, 1));
        check.due("nothing changed", 8, x.code(1, 0, 0));
        check.due("the last", 0, x.code(9, 8, 2));
        check.due("is its own", 0, x.code(8, 9, 2));
    }

    private static void setting() {
        check.promise(19);
        PennyPost x = new PennyPost();
        int[][] bounds = {{0, 2}, {0, 200}, {0, 100000}, {0, 99}, {0, 9}, {-1000000, 1000000}, {-1, 99}};
        for (int what = 0; what < 7; what++) {
            check.due("below " + what, -3, x.set(what, bounds[what][0] - 1));
            check.due("above " + what, -3, x.set(what, bounds[what][1] + 1));
            check.due("least " + what, 1, x.set(what, bounds[what][0]));
            check.due("most " + what, 1, x.set(what, bounds[what][1]));
        }
        check.due("what", -3, x.set(-1, 0));
        check.due("what", -3, x.set(7, 0));
        PennyPost first = new PennyPost();
        first.way(0, 1, 1, 1, 1, 0, 100);
        first.letter(0, 1, 9, 1, 0, 0, 0);
        first.letter(0, 1, 1, 64, 0, 0, 0);
        first.hours(1);
        borne(first, "KEY 0 at first", 50, 50);
        first.set(2, 1);
        first.set(3, 0);
        check.due("LIMIT 0 at first: a penny is above it", 0, first.judge(0, 1, 2));
        first.set(2, 0);
        check.due("LIMIT 0 at first: nothing is not", -1, first.judge(0, 1, 2));
        PennyPost y = new PennyPost();
        y.set(2, 7);
        y.set(2, -1);
        y.set(2, 100001);
        check.due("as it was set", 7, y.year(0, 3));
    }

    private static void counting() {
        check.promise(37);
        PennyPost x = pair("to 10 pay 5");
        Check.text(x, "abc");
        x.letter(0, 1, 1, 1, 200, 0, 0);
        x.letter(0, 1, 1, 1, 0, 0, 0);
        x.letter(0, 1, 1, 1, 0, 1, 0);
        x.way(2, 3, 1, 1, 1, 0, 9);
        x.letter(2, 3, 1, 1, 0, 0, 0);
        x.want(0, 1, 1, 1, 1);
        x.price(1);
        x.price(1);
        x.doors(2);
        x.path(0, 1, 1);
        x.path(0, 1, 1);
        x.path(0, 1, 1);
        x.hours(2);
        int[] want = {3, 2, 1, 4, 3, 10, 9, 1, 3, 1, 2, 3};
        for (int what = 0; what < want.length; what++) {
            check.due("count(" + what + ")", want[what], x.count(what));
        }
        check.due("what", -3, x.count(-1));
        check.due("what", -3, x.count(12));
    }

    /** In random posts: what runs cost is borne, what is paid leaves purses, and no letter is lost. */
    private static void sums() {
        Check.Dice dice = new Check.Dice(14);
        for (int run = 0; run < 40; run++) {
            PennyPost x = new PennyPost();
            for (int i = 0; i < 12; i++) {
                int every = dice.from(1, 8);
                x.way(dice.below(10), dice.below(10), dice.from(1, 60), dice.from(1, 9), every, dice.below(every), dice.below(100));
            }
            Check.act(x, "to 30 pay 2; to 90 pay 4; over 20 pay 1; free 1; ahead 1", 0);
            for (int i = 0; i < 30; i++) {
                int kind = dice.below(3);
                x.letter(dice.below(10), dice.below(10), dice.from(1, 3), dice.from(1, 64), dice.below(20), kind, dice.below(6));
                x.code(dice.below(10), dice.below(10), 2 * dice.below(128));
                x.set(0, dice.below(3));
                x.hours(dice.from(1, 20));
            }
            check.promise(16);
            int[] sum = new int[4];
            for (int i = 0; i < x.count(3); i++) {
                sum[0] += x.at(i, 3);
                sum[1] += x.at(i, 4);
                sum[2] += x.at(i, 2);
                sum[3] += x.at(i, 0) == 2 ? 1 : 0;
                check.holds("given or back at an hour", x.at(i, 0) >= 2 == x.at(i, 6) >= x.at(i, 5));
                check.holds("back only when refused", x.at(i, 0) != 3 || x.at(i, 2) == 1);
                check.holds("given only when not refused", x.at(i, 0) != 2 || x.at(i, 2) == 0);
            }
            int purses = 0;
            for (int town = 0; town < 10; town++) {
                purses += x.purse(town, 0);
            }
            check.promise(37);
            check.due("paid", sum[0], x.count(5));
            check.due("left in the purses", 2000 - sum[0], purses);
            check.due("runs", sum[1], x.count(6));
            check.due("refused", sum[2], x.count(7));
            check.due("given", sum[3], x.count(8));
        }
    }
}
