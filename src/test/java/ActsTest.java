/** Promises 6 to 13: the text, its faults, acts and what they tell. */
public final class ActsTest {
    private static final Check check = new Check("ActsTest");

    public static void main(String[] args) {
        writing();
        erasing();
        faults();
        fullTexts();
        forcing();
        word();
        farWord();
        dayActs();
        postages();
        eighthClauses();
        clauses();
        check.end();
    }

    private static void writing() {
        check.promise(6);
        PennyPost x = new PennyPost();
        check.due("none", -3, x.write(0, 0));
        check.due("nine", -3, x.write(0, 9));
        check.due("one", 1, x.write('l', 1));
        check.due("more bytes than told are not taken", 5, x.write(0x2121212174736165L, 4));
        check.due("a blank and a digit", 7, x.write(' ' | '7' << 8, 2));
        check.due("low byte first", -1, x.fault());
        check.due("8 bytes, the last of them above 127", 15, x.write(0xFF20202020202020L, 8));
        check.due("the byte at the end", 14, x.fault());
        for (int i = 0; i < 18; i++) {
            x.write(0x2020202020202020L, 8);
        }
        check.due("159", 159, x.count(4));
        check.due("one too many", -5, x.write(0, 2));
        check.due("nine ahead of full", -3, x.write(0, 9));
        check.due("nothing changed", 159, x.count(4));
        check.due("the last", 160, x.write(0, 1));
        check.due("full", -5, x.write(0, 1));
    }

    private static void erasing() {
        check.promise(7);
        PennyPost x = new PennyPost();
        check.due("empty", 0, x.erase());
        Check.text(x, "to 5 pay 3; ?");
        check.due("13", 13, x.erase());
        check.due("again", 0, x.erase());
        check.due("count", 0, x.count(4));
        Check.text(x, "free 3");
        check.due("nothing of the old one", -1, x.fault());
    }

    private static void faults() {
        check.promise(8);
        String[] good = {"to 1 pay 0", "to 999 pay 99", "over 1 pay 0", "over 999 pay 99", "weigh 1", "weigh 64", "free 0",
            "free 99", "ahead 0", "ahead 99", "least 0", "least 99", "to 005 pay 07", "to5pay3;free2", "  to  5   pay 3  ;  free 2  ",
            "free 1;free 1;free 1;free 1;free 1;free 1;free 1;free 1"};
        for (String text : good) {
            check.due("fault of '" + text + "'", -1, Check.faultOf(text));
        }
        Object[][] bad = {{"", 0}, {"   ", 3}, {"to", 2}, {"to ", 3}, {"to 5", 4}, {"to 5 pay", 8}, {"to 5 pay  ", 10}, {"free 1;", 7},
            {"free 1; ", 8}, {";", 0}, {"free 1;;", 7}, {"free 1 free 2", 7}, {"free 1 2", 7}, {"to 0 pay 3", 3}, {"to 1000 pay 3", 3},
            {"to 0005 pay 3", 3}, {"to 5 pay 100", 9}, {"over 0 pay 1", 5}, {"over 1 pay 100", 11}, {"weigh 0", 6}, {"weigh 65", 6},
            {"free 100", 5}, {"ahead 100", 6}, {"least 100", 6}, {"To 5 pay 3", 0}, {"toX", 2}, {"toz 5 pay 3", 0}, {"toa 5 pay 3", 0}, {"lo 5 pay 3", 0}, {"to 5 bay 3", 5}, {"to 9: pay 3", 4}, {"to / pay 3", 3},
            {"to`", 2}, {"to{", 2}, {"top 5 pay 3", 0}, {"t 5 pay 3", 0},
            {"to five pay 3", 3}, {"to 5 5 pay 3", 5}, {"to 5 to 3", 5}, {"to 5 pays 3", 5}, {"to 5 pay -3", 9}, {"5", 0}, {"pay 5", 0},
            {" to 5 pay 3.", 11}, {"weigh 3 pay 2", 8}, {"to\t5 pay 3", 2}, {"free 1\0", 6}, {"to 5 pay 3; free 2; wax 1", 20},
            {"free 1;free 1;free 1;free 1;free 1;free 1;free 1;free 1;free 1", 55},
            {"free 1;free 1;free 1;free 1;free 1;free 1;free 1;free 1;", 55},
            {"free 1;free 1;free 1;free 1;free 1;free 1;free 1;free 1 7", 56}};
        for (Object[] b : bad) {
            check.due("fault of '" + b[0] + "'", (Integer) b[1], Check.faultOf((String) b[0]));
        }
    }

    /** Texts of 160 bytes. */
    private static void fullTexts() {
        check.promise(8);
        check.due("blanks behind", -1, Check.faultOf("to 9 pay 1" + " ".repeat(150)));
        check.due("blanks ahead", -1, Check.faultOf(" ".repeat(150) + "to 9 pay 1"));
        check.due("at the end, too soon", 160, Check.faultOf("to 9 pay" + " ".repeat(152)));
        check.due("at the end, blanks alone", 160, Check.faultOf(" ".repeat(160)));
        check.due("at the end, behind a clause", 160, Check.faultOf(" ".repeat(153) + "free 1;"));
        check.due("the last byte", 159, Check.faultOf("to 9 pay 1" + " ".repeat(149) + "x"));
        check.due("the last token", 156, Check.faultOf(" ".repeat(150) + "weigh 1000"));
        check.due("a row of 160 letters", 0, Check.faultOf("o".repeat(160)));
        check.due("a row of 155 digits", 5, Check.faultOf("free " + "0".repeat(155)));
        String eight = "over 999 pay 99;to 999 pay 99;weigh 64;free 99;ahead 99;least 99;over 1 pay 0;to 1 pay 0";
        check.due("eight clauses", -1, Check.faultOf(eight + " ".repeat(160 - eight.length())));
        check.promise(9);
        PennyPost x = new PennyPost();
        check.due("all of it", 160, Check.text(x, eight + " ".repeat(160 - eight.length())));
        check.due("forced", 0, x.force(0));
        check.due("empty then", 0, x.count(4));
        check.due("and may be written again", 1, x.write('t', 1));
        check.due("nothing of the old one", 0, x.fault());
    }

    private static void forcing() {
        check.promise(9);
        PennyPost x = new PennyPost();
        check.due("an empty text has a fault", -4, x.force(0));
        check.due("day ahead of the fault", -3, x.force(-1));
        Check.text(x, "free 1");
        check.due("day", -3, x.force(1001));
        check.due("the text stays", 6, x.count(4));
        check.due("the first", 0, x.force(1000));
        check.due("the text is empty", 0, x.count(4));
        check.due("an act", 1, x.count(2));
        for (int i = 1; i < 5; i++) {
            check.due("act " + i, i, Check.act(x, "free 1", 0));
        }
        check.due("a fault ahead of full", -4, x.force(0));
        Check.text(x, "free 1");
        check.due("full", -5, x.force(0));
        check.due("the text stays", 6, x.count(4));
        check.due("five", 5, x.count(2));
    }

    private static void word() {
        check.promise(10);
        PennyPost x = new PennyPost();
        x.way(0, 1, 1, 3, 6, 2, 0);
        check.due("no act yet", -2, x.knows(0, 0));
        x.hours(3);
        Check.act(x, "free 1", 0);
        check.due("town 0 at once", 3, x.knows(0, 0));
        check.due("by the way", 11, x.knows(1, 0));
        check.due("never", -1, x.knows(2, 0));
        x.way(1, 2, 1, 1, 1, 0, 0);
        check.due("a later way brings no word", -1, x.knows(2, 0));
        Check.act(x, "free 1", 0);
        check.due("but of the next act", 12, x.knows(2, 1));
        check.due("no town", -2, x.knows(10, 0));
        check.due("no act", -2, x.knows(0, 2));
        check.due("no act", -2, x.knows(0, -1));
    }

    /** Word that goes by nine ways, and word in the last hour. */
    private static void farWord() {
        check.promise(10);
        PennyPost x = new PennyPost();
        for (int a = 8; a >= 0; a--) {
            x.way(a, a + 1, 1, 40, 24, 23, 0);
        }
        x.hours(24);
        Check.act(x, "free 1", 0);
        check.due("at once", 24, x.knows(0, 0));
        check.due("by one way", 87, x.knows(1, 0));
        check.due("by nine ways", 87 + 8 * 48, x.knows(9, 0));
        check.promise(11);
        check.due("an hour ahead", -1, x.act(9, 86 + 8 * 48, 0));
        check.due("in that hour", 0, x.act(9, 87 + 8 * 48, 0));
        check.promise(10);
        for (int hour = 24; hour < 9000; hour += 60) {
            x.hours(Math.min(60, 9000 - hour));
        }
        check.due("in hour 9000", 9000, x.count(0));
        Check.act(x, "free 2", 0);
        check.due("at once", 9000, x.knows(0, 1));
        check.due("beyond 9000", 9000 + 63, x.knows(1, 1));
        check.promise(11);
        check.due("beyond 9000", 0, x.act(1, 9062, 0));
        check.due("beyond 9000", 1, x.act(1, 9063, 0));
    }

    private static void dayActs() {
        check.promise(11);
        PennyPost x = new PennyPost();
        x.way(0, 1, 1, 3, 6, 2, 0);
        Check.act(x, "free 1", 5);
        Check.act(x, "free 2", 3);
        Check.act(x, "free 3", 5);
        check.due("before all", -1, x.act(0, 0, 2));
        check.due("the day itself", 1, x.act(0, 0, 3));
        check.due("the day between", 1, x.act(0, 0, 4));
        check.due("of two the last", 2, x.act(0, 0, 5));
        check.due("later", 2, x.act(0, 20000, 1000));
        check.due("the first day and hour", -1, x.act(0, 0, 0));
        check.due("no word yet", -1, x.act(1, 4, 5));
        check.due("word is there", 2, x.act(1, 5, 5));
        check.due("never", -1, x.act(2, 20000, 1000));
        x.hours(7);
        Check.act(x, "free 4", 4);
        check.due("forced in hour 7", 1, x.act(0, 6, 4));
        check.due("forced in hour 7", 3, x.act(0, 7, 4));
        check.due("greatest day ahead of the last forced", 2, x.act(0, 7, 6));
        check.due("word of it later", 1, x.act(1, 10, 4));
        check.due("word of it", 3, x.act(1, 11, 4));
        check.due("no town", -2, x.act(10, -1, 0));
        check.due("hour", -3, x.act(0, -1, 0));
        check.due("hour", -3, x.act(0, 20001, 0));
        check.due("day", -3, x.act(0, 0, -1));
        check.due("day", -3, x.act(0, 0, 1001));
    }

    private static int postage(String act, int miles, int sheets, int drams, boolean ahead) {
        PennyPost x = new PennyPost();
        check.due("'" + act + "'", 0, Check.act(x, act, 0));
        return x.postage(0, miles, sheets, drams, ahead);
    }

    private static void postages() {
        check.promise(12);
        check.due("to, its mile", 4, postage("to 15 pay 4", 15, 1, 1, false));
        check.due("to, beyond", -1, postage("to 15 pay 4", 16, 1, 1, false));
        check.due("the least that is enough", 2, postage("to 50 pay 6; to 20 pay 2; to 30 pay 3", 20, 1, 1, false));
        check.due("of two alike the first", 6, postage("to 50 pay 6; to 50 pay 2", 50, 1, 1, false));
        check.due("over begun", 7, postage("to 50 pay 6; to 20 pay 9; over 10 pay 1", 51, 1, 1, false));
        check.due("over whole", 7, postage("to 50 pay 6; over 10 pay 1", 60, 1, 1, false));
        check.due("over begun again", 8, postage("to 50 pay 6; over 10 pay 1", 61, 1, 1, false));
        check.due("over: of the greatest to the first", 7, postage("to 50 pay 6; to 50 pay 2; over 10 pay 1", 51, 1, 1, false));
        check.due("the first over", 7, postage("to 50 pay 6; over 10 pay 1; over 100 pay 5", 51, 1, 1, false));
        check.due("to ahead of over", 6, postage("over 10 pay 1; to 50 pay 6", 50, 1, 1, false));
        check.due("over without to", 6, postage("over 10 pay 3", 11, 1, 1, false));
        check.due("over without to, no miles", 0, postage("over 10 pay 3", 0, 1, 1, false));
        check.due("neither", -1, postage("free 3; least 4", 0, 1, 1, false));
        check.due("sheets", 36, postage("to 15 pay 4", 0, 9, 64, false));
        check.due("weigh", 12, postage("to 15 pay 4; weigh 3", 0, 9, 7, false));
        check.due("weigh, whole", 8, postage("to 15 pay 4; weigh 3", 0, 9, 6, false));
        check.due("the first weigh", 4, postage("weigh 64; to 15 pay 4; weigh 3", 0, 9, 64, false));
        check.due("ahead clauses together", 3, postage("to 15 pay 9; ahead 2; ahead 4", 0, 1, 1, true));
        check.due("not ahead", 9, postage("to 15 pay 9; ahead 2; ahead 4", 0, 1, 1, false));
        check.due("0 at least", 0, postage("to 15 pay 9; ahead 20", 0, 1, 1, true));
        check.due("the greatest least", 5, postage("to 15 pay 9; ahead 20; least 5; least 3", 0, 1, 1, true));
        check.due("least below", 9, postage("to 15 pay 9; least 5", 0, 1, 1, false));
        check.due("free clauses are not ahead clauses", 9, postage("free 3; to 15 pay 9; free 2", 0, 1, 1, true));
        check.due("ahead and least as first clauses", 6, postage("ahead 3; to 15 pay 9; least 5", 0, 1, 1, true));
        check.due("ahead and least as first clauses", 8, postage("least 8; to 15 pay 9; ahead 3", 0, 1, 1, true));
        check.due("the most", 5000 * 99 * 64, postage("over 1 pay 99; weigh 1", 5000, 1, 64, false));
        PennyPost x = new PennyPost();
        check.due("no act", -2, x.postage(0, -1, 0, 0, false));
        Check.act(x, "over 1 pay 1", 0);
        check.due("act ahead of numbers", -2, x.postage(1, -1, 0, 0, false));
        check.due("miles", -3, x.postage(0, -1, 1, 1, false));
        check.due("miles", -3, x.postage(0, 5001, 1, 1, false));
        check.due("sheets", -3, x.postage(0, 0, 0, 1, false));
        check.due("sheets", -3, x.postage(0, 0, 10, 1, false));
        check.due("drams", -3, x.postage(0, 0, 1, 0, false));
        check.due("drams", -3, x.postage(0, 0, 1, 65, false));
    }

    /** The eighth clause tells as the first does. */
    private static void eighthClauses() {
        check.promise(12);
        String free = "free 1;".repeat(6);
        check.due("to", 5, postage("to 9 pay 6;" + free + "to 8 pay 5", 8, 1, 1, false));
        check.due("the greatest to", 6, postage("over 1 pay 1;" + free + "to 9 pay 5", 10, 1, 1, false));
        check.due("over", 7, postage("to 9 pay 6;" + free + "over 5 pay 1", 10, 1, 1, false));
        check.due("weigh", 15, postage("to 9 pay 5;" + free + "weigh 2", 9, 1, 5, false));
        check.due("ahead", 3, postage("to 9 pay 5;" + free + "ahead 2", 9, 1, 1, true));
        check.due("least", 7, postage("to 9 pay 5;" + free + "least 7", 9, 1, 1, false));
        check.due("bounds of both", 0, postage("to 9 pay 5; ahead 99; ahead 99; least 0", 9, 9, 64, true));
        check.due("most of both", 99, postage("to 9 pay 5; ahead 99; ahead 99; least 99", 9, 9, 64, true));
        check.due("no pence, though there is a least", -1, postage("to 9 pay 5; least 7", 10, 1, 1, true));
        check.due("pay 0", 0, postage("to 9 pay 0", 9, 9, 64, false));
        check.due("weigh 1", 64 * 5, postage("to 9 pay 5; weigh 1", 9, 1, 64, false));
        check.due("weigh 64, as much", 5, postage("to 9 pay 5; weigh 64", 9, 1, 64, false));
        check.due("weigh 64, a dram", 5, postage("to 9 pay 5; weigh 64", 9, 9, 1, false));
        check.due("over 999 of 999", 3, postage("over 999 pay 3", 999, 1, 1, false));
        check.due("over 999 of 1000", 6, postage("over 999 pay 3", 1000, 1, 1, false));
        check.due("to 999", 2, postage("to 999 pay 2; over 999 pay 3", 999, 1, 1, false));
        check.due("beyond to 999", 5, postage("to 999 pay 2; over 999 pay 3", 1998, 1, 1, false));
        check.due("a mile more", 8, postage("to 999 pay 2; over 999 pay 3", 1999, 1, 1, false));
        check.promise(22);
        PennyPost x = new PennyPost();
        x.letter(0, 1, 1, 1, 0, 2, 0);
        x.letter(0, 1, 1, 1, 0, 2, 0);
        Check.act(x, "free 0;".repeat(7) + "free 1", 0);
        check.due("free", 1, x.more(0, 0));
    }

    private static int clause(String act, int miles) {
        PennyPost x = new PennyPost();
        Check.act(x, act, 0);
        return x.why(0, miles);
    }

    private static void clauses() {
        check.promise(13);
        check.due("to", 1, clause("to 50 pay 6; to 20 pay 2", 20));
        check.due("to", 0, clause("to 50 pay 6; to 20 pay 2", 21));
        check.due("first of alike", 1, clause("free 2; to 50 pay 6; to 50 pay 2", 50));
        check.due("no miles", 0, clause("to 50 pay 6", 0));
        check.due("over", 1, clause("to 50 pay 6; over 20 pay 2; over 30 pay 1", 51));
        check.due("none", -1, clause("to 50 pay 6; free 1", 51));
        check.due("the eighth", 7, clause("free 1;free 1;free 1;free 1;free 1;free 1;free 1;over 9 pay 9", 5000));
        PennyPost x = new PennyPost();
        check.due("no act", -2, x.why(0, 0));
        Check.act(x, "over 1 pay 1", 0);
        check.due("no act", -2, x.why(-1, -1));
        check.due("miles", -3, x.why(0, -1));
        check.due("miles", -3, x.why(0, 5001));
    }
}
