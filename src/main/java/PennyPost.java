import java.util.Arrays;

/** Letters, acts, members, stamps, doors and prices of a penny post, as ../shared/DOC.md promises them. */
public final class PennyPost {
    public static final int NONE = -1, UNKNOWN = -2, OUTSIDE = -3, NOT = -4, FULL = -5;

    /** Stands for a refusal where every other int may be a sum of money. */
    private static final int LEAST_INT = -2147483648;

    private static final int TOWNS = 10, MEMBERS = 6, STAMPS = 2400, CLAUSES = 8;
    private static final int LAST_HOUR = 9000, LAST_ASKED_HOUR = 20000, LAST_DAY = 1000, LAST_WEEK = 60;
    private static final int LAST_MILE = 5000, MOST_SHEETS = 9, MOST_DRAMS = 64, MOST_PRICE = 99, MOST_YEARS = 5;

    private static final int TO = 0, OVER = 1, WEIGH = 2, FREE = 3, AHEAD = 4, LEAST = 5;
    private static final int PLAIN = 0, PAID = 1, FRANKED = 2;
    private static final int WAITS = 0, ON_WAY = 1, GIVEN = 2, BACK = 3;

    private static final int KEY = 0, WASH = 1, FIXED = 2, EACH = 3, GROW = 4, LIMIT = 5, SMUGGLERS = 6;
    private static final int[] LEAST_RULE = {0, 0, 0, 0, 0, -1000000, -1};
    private static final int[] MOST_RULE = {2, 200, 100000, 99, 9, 1000000, 99};

    /** What set() tells, by KEY .. SMUGGLERS; the parts below share this row. */
    private final int[] rules = {0, 48, 1000, 1, 1, 0, NONE};
    private final Land land = new Land();
    private final Text text = new Text();
    private final Offices offices = new Offices();
    private final Mail mail = new Mail(land, offices, rules);
    private final Watch watch = new Watch(land, mail, rules);
    private final Street street = new Street();
    private final Market market = new Market(rules);

    public PennyPost() {
    }

    // ---- the land

    public int way(int a, int b, int miles, int hours, int every, int first, int cost) {
        if (!isTown(a) || !isTown(b)) return UNKNOWN;
        if (a == b || !within(miles, 1, 200) || !within(hours, 1, 40)) return OUTSIDE;
        if (!within(every, 1, 24) || !within(first, 0, every - 1) || !within(cost, 0, 999)) return OUTSIDE;
        if (land.hasWay(a, b)) return NOT;
        if (land.ways >= Land.MOST_WAYS) return FULL;
        return land.addWay(a, b, miles, hours, every, first, cost);
    }

    public int far(int a, int b) {
        if (!isTown(a) || !isTown(b)) return UNKNOWN;
        return land.miles.between(a, b);
    }

    public int due(int a, int b, int hour) {
        if (!isTown(a) || !isTown(b)) return UNKNOWN;
        if (!within(hour, 0, LAST_ASKED_HOUR)) return OUTSIDE;
        return land.arrival(a, b, hour);
    }

    public int next(int a, int b, int hour) {
        if (!isTown(a) || !isTown(b)) return UNKNOWN;
        if (!within(hour, 0, LAST_ASKED_HOUR)) return OUTSIDE;
        int end = land.bestEnd(a, b, hour);
        return end == NONE ? NONE : end / 2;
    }

    // ---- acts

    public int write(long bytes, int n) {
        if (!within(n, 1, 8)) return OUTSIDE;
        if (text.length + n > Text.MOST_BYTES) return FULL;
        for (int i = 0; i < n; i++) {
            text.append((int) (bytes >> 8 * i & 255));
        }
        return text.length;
    }

    public int erase() {
        int had = text.length;
        text.length = 0;
        return had;
    }

    public int fault() {
        return text.firstFault();
    }

    public int force(int day) {
        if (!within(day, 0, LAST_DAY)) return OUTSIDE;
        if (text.firstFault() != NONE) return NOT;
        if (offices.count >= Offices.MOST_ACTS) return FULL;
        text.length = 0;
        return offices.addAct(text, day, land, mail.hour);
    }

    public int knows(int town, int act) {
        if (!isTown(town) || !isAct(act)) return UNKNOWN;
        return offices.acts[act].known[town];
    }

    public int act(int town, int hour, int day) {
        if (!isTown(town)) return UNKNOWN;
        if (!within(hour, 0, LAST_ASKED_HOUR) || !within(day, 0, LAST_DAY)) return OUTSIDE;
        return offices.told(town, hour, day);
    }

    public int postage(int act, int miles, int sheets, int drams, boolean ahead) {
        if (!isAct(act)) return UNKNOWN;
        if (!within(miles, 0, LAST_MILE) || !isSize(sheets, drams)) return OUTSIDE;
        return offices.acts[act].charge(miles, sheets, drams, ahead);
    }

    public int why(int act, int miles) {
        if (!isAct(act)) return UNKNOWN;
        if (!within(miles, 0, LAST_MILE)) return OUTSIDE;
        return offices.acts[act].clauseFor(miles);
    }

    // ---- letters

    public int letter(int from, int to, int sheets, int drams, int worth, int kind, int with) {
        if (!areTwoTowns(from, to) || kind == FRANKED && !isMember(with)) return UNKNOWN;
        if (!isSize(sheets, drams) || !within(worth, 0, 200) || !within(kind, PLAIN, FRANKED)) return OUTSIDE;
        if (kind == PLAIN && !within(with, 0, 7) || kind == PAID && !isStamp(with)) return OUTSIDE;
        if (mail.count >= Mail.MOST_LETTERS) return FULL;
        int paid = 0;
        if (kind == PAID) {
            paid = mail.chargeAhead(from, to, sheets, drams);
            if (paid == NONE || paid > mail.purses[from]) return NOT;
        }
        Letter letter = mail.addLetter(from, to, paid);
        letter.sheets = sheets;
        letter.drams = drams;
        letter.worth = worth;
        letter.kind = kind;
        letter.with = with;
        return mail.count - 1;
    }

    public int hours(int n) {
        if (!within(n, 1, 60) || mail.hour + n > LAST_HOUR) return OUTSIDE;
        for (int i = 0; i < n; i++) {
            mail.passHour();
        }
        return mail.hour;
    }

    public int at(int letter, int what) {
        if (!isLetter(letter)) return UNKNOWN;
        Letter asked = mail.letters[letter];
        switch (what) {
            case 0: return asked.state;
            case 1: return asked.town;
            case 2: return asked.refused ? 1 : 0;
            case 3: return asked.paid;
            case 4: return asked.borne;
            case 5: return asked.written;
            case 6: return asked.ended;
            default: return OUTSIDE;
        }
    }

    public int purse(int town, int v) {
        if (!isTown(town)) return UNKNOWN;
        if (!within(v, 0, 30000)) return OUTSIDE;
        int was = mail.purses[town];
        mail.purses[town] = v;
        return was;
    }

    public int code(int from, int to, int marks) {
        if (!areTwoTowns(from, to)) return UNKNOWN;
        if ((marks & ~254) != 0) return OUTSIDE;
        int was = mail.codes[from * TOWNS + to];
        mail.codes[from * TOWNS + to] = marks;
        return was;
    }

    public int set(int what, int v) {
        if (!within(what, KEY, SMUGGLERS) || !within(v, LEAST_RULE[what], MOST_RULE[what])) return OUTSIDE;
        rules[what] = v;
        return 1;
    }

    // ---- members, stamps

    public int met(int member, int town, int hour) {
        if (!isMember(member) || !isTown(town)) return UNKNOWN;
        if (!within(hour, 0, LAST_HOUR)) return OUTSIDE;
        if (watch.meetings >= Watch.MOST_MEETINGS) return FULL;
        return watch.addMeeting(member, town, hour);
    }

    public int cannot(int letter) {
        if (!isLetter(letter)) return UNKNOWN;
        if (mail.letters[letter].kind != FRANKED) return NOT;
        return watch.isElsewhere(mail.letters[letter]) ? 1 : 0;
    }

    public int more(int member, int week) {
        if (!isMember(member)) return UNKNOWN;
        if (!within(week, 0, LAST_WEEK)) return OUTSIDE;
        int told = offices.told(0, mail.hour, week * 7);
        int free = told == NONE ? 0 : offices.acts[told].freeLetters();
        return Math.max(0, mail.frankedIn(member, week, mail.count) - free);
    }

    public int alike(int stamp) {
        if (!isStamp(stamp)) return OUTSIDE;
        return watch.lettersWith(stamp);
    }

    public int forged(int stamp) {
        if (!isStamp(stamp)) return OUTSIDE;
        return watch.forgeries(stamp);
    }

    // ---- doors

    public int doors(int n) {
        if (!within(n, 1, Street.MOST_DOORS)) return OUTSIDE;
        int had = street.count;
        street.build(n);
        return had;
    }

    public int path(int a, int b, int length) {
        if (!within(a, 0, street.count - 1) || !within(b, 0, street.count - 1)) return UNKNOWN;
        if (a == b || !within(length, 1, 30)) return OUTSIDE;
        if (street.paths >= Street.MOST_PATHS) return FULL;
        return street.addPath(a, b, length);
    }

    public int boxes(int reach, int what) {
        if (!within(reach, 0, 200) || !within(what, 0, 1)) return OUTSIDE;
        int set = street.fewestBoxes(reach);
        return what == 0 ? Integer.bitCount(set) : set;
    }

    public int walk(int set) {
        if (!within(set, 0, (1 << street.count) - 1)) return OUTSIDE;
        return street.round(set);
    }

    // ---- prices

    public int want(int from, int to, int people, int worth, int times) {
        if (!areTwoTowns(from, to)) return UNKNOWN;
        if (!within(people, 1, 500) || !within(worth, 0, 99) || !within(times, 0, Market.MOST_TIMES)) return OUTSIDE;
        if (market.wants >= Market.MOST_WANTS) return FULL;
        return market.addWant(from, to, people, worth, times);
    }

    public int year(int price, int what) {
        if (!within(price, 0, MOST_PRICE)) return LEAST_INT;
        int posted = market.passYear(0, price);
        switch (what) {
            case 0: return posted;
            case 1: return market.smuggled;
            case 2: return posted * price;
            case 3: return market.loss(posted, price);
            default: return LEAST_INT;
        }
    }

    public int even() {
        for (int price = 0; price <= MOST_PRICE; price++) {
            if (market.loss(market.passYear(0, price), price) <= 0) return price;
        }
        return NONE;
    }

    public int under(int act, int what) {
        if (!isAct(act)) return UNKNOWN;
        if (!within(what, 0, 1)) return OUTSIDE;
        int posted = 0;
        int income = 0;
        for (int w = 0; w < market.wants; w++) {
            int miles = land.miles.between(market.from[w], market.to[w]);
            int price = offices.acts[act].charge(miles, 1, 8, false);
            if (price != NONE && market.isPosted(w, price)) {
                int letters = market.people[w] * market.times[w];
                posted += letters;
                income += letters * price;
            }
        }
        return what == 0 ? posted : income;
    }

    public int price(int v) {
        if (!within(v, 0, MOST_PRICE)) return OUTSIDE;
        if (market.priceCount >= Market.MOST_PRICES) return FULL;
        return market.addPrice(v);
    }

    public int plan(int n, int what) {
        if (!within(n, 1, MOST_YEARS) || !within(what, 0, 1)) return LEAST_INT;
        if (!market.findBest(n)) return LEAST_INT;
        return what == 0 ? market.bestLetters : market.bestDebt;
    }

    public int planned(int n, int i) {
        if (!within(n, 1, MOST_YEARS) || !within(i, 0, n - 1)) return OUTSIDE;
        return market.findBest(n) ? market.best[i] : NONE;
    }

    public int judge(long row, int n, int what) {
        if (!within(n, 1, MOST_YEARS) || !within(what, 0, 2)) return LEAST_INT;
        int letters = 0;
        int debt = 0;
        int broke = NONE;
        for (int i = 0; i < n; i++) {
            int price = (int) (row >> 7 * i & 127);
            if (price > MOST_PRICE) return LEAST_INT;
            int posted = market.passYear(i, price);
            letters += posted;
            debt += market.loss(posted, price);
            if (broke == NONE && debt > rules[LIMIT]) broke = i;
        }
        switch (what) {
            case 0: return letters;
            case 1: return debt;
            default: return broke;
        }
    }

    public int count(int what) {
        switch (what) {
            case 0: return mail.hour;
            case 1: return land.ways;
            case 2: return offices.count;
            case 3: return mail.count;
            case 4: return text.length;
            case 5: return mail.allPaid;
            case 6: return mail.allRuns;
            case 7: return mail.refused;
            case 8: return mail.given;
            case 9: return market.wants;
            case 10: return market.priceCount;
            case 11: return street.paths;
            default: return OUTSIDE;
        }
    }

    // ---- what the calls ask of their numbers

    private static boolean within(int v, int least, int most) {
        return v >= least && v <= most;
    }

    private static boolean isTown(int v) {
        return within(v, 0, TOWNS - 1);
    }

    private static boolean areTwoTowns(int a, int b) {
        return isTown(a) && isTown(b) && a != b;
    }

    private static boolean isMember(int v) {
        return within(v, 0, MEMBERS - 1);
    }

    private static boolean isStamp(int v) {
        return within(v, 0, STAMPS - 1);
    }

    private static boolean isSize(int sheets, int drams) {
        return within(sheets, 1, MOST_SHEETS) && within(drams, 1, MOST_DRAMS);
    }

    private boolean isAct(int v) {
        return within(v, 0, offices.count - 1);
    }

    private boolean isLetter(int v) {
        return within(v, 0, mail.count - 1);
    }

    private static int dayOf(int hour) {
        return hour / 24;
    }

    private static int weekOf(int hour) {
        return dayOf(hour) / 7;
    }

    /** The least lengths between places, kept up as joins come in, so that asking costs nothing. */
    private static final class Distances {
        /** Above every length there can be; three of them still fit in an int. */
        private static final int APART = 100000000;

        private final int size;
        private final int[] least;

        Distances(int size) {
            this.size = size;
            this.least = new int[size * size];
            clear();
        }

        void clear() {
            Arrays.fill(least, APART);
            for (int i = 0; i < size; i++) {
                least[i * size + i] = 0;
            }
        }

        void join(int a, int b, int length) {
            for (int i = 0; i < size; i++) {
                for (int j = 0; j < size; j++) {
                    int there = least[i * size + a] + length + least[b * size + j];
                    int back = least[i * size + b] + length + least[a * size + j];
                    least[i * size + j] = Math.min(least[i * size + j], Math.min(there, back));
                }
            }
        }

        int between(int a, int b) {
            int length = least[a * size + b];
            return length >= APART ? NONE : length;
        }
    }

    /** The ways between the towns, and who can be where when. */
    private static final class Land {
        static final int MOST_WAYS = 16;

        final Distances miles = new Distances(TOWNS);
        final int[] travel = new int[MOST_WAYS];
        final int[] cost = new int[MOST_WAYS];
        /** Both ends of each way side by side: place by 2 is the way, and place ^ 1 its other end. */
        final int[] ends = new int[2 * MOST_WAYS];
        private final int[] every = new int[MOST_WAYS];
        private final int[] first = new int[MOST_WAYS];
        /** The least hour in each town, as spreadFrom() left it. */
        final int[] reached = new int[TOWNS];
        int ways;

        boolean hasWay(int a, int b) {
            for (int end = 0; end < 2 * ways; end++) {
                if (ends[end] == a && ends[end ^ 1] == b) return true;
            }
            return false;
        }

        int addWay(int a, int b, int length, int hours, int each, int start, int pence) {
            ends[2 * ways] = a;
            ends[2 * ways + 1] = b;
            travel[ways] = hours;
            every[ways] = each;
            first[ways] = start;
            cost[ways] = pence;
            miles.join(a, b, length);
            return ways++;
        }

        int arrival(int from, int to, int hour) {
            spreadFrom(from, hour);
            return reached[to];
        }

        /** The end by which one leaves for another town, so as to be there when it is due; NONE. */
        int bestEnd(int from, int to, int hour) {
            if (from == to) return NONE;
            spreadFrom(from, hour);
            int soonest = reached[to];
            if (soonest == NONE) return NONE;
            for (int end = 0; end < 2 * ways; end++) {
                if (ends[end] != from) continue;
                int there = departure(end / 2, hour) + travel[end / 2];
                if (there > soonest) continue;
                spreadFrom(ends[end ^ 1], there);
                if (reached[to] == soonest) return end;
            }
            return NONE;
        }

        boolean leavesIn(int way, int hour) {
            return departure(way, hour) == hour;
        }

        boolean anyLeaves(int town, int hour) {
            for (int end = 0; end < 2 * ways; end++) {
                if (ends[end] == town && leavesIn(end / 2, hour)) return true;
            }
            return false;
        }

        /** To leave later is never to arrive sooner, so the least hours settle in fewer rounds than towns. */
        void spreadFrom(int town, int hour) {
            Arrays.fill(reached, NONE);
            reached[town] = hour;
            boolean sooner = true;
            for (int round = 0; round < TOWNS && sooner; round++) {
                sooner = false;
                for (int end = 0; end < 2 * ways; end++) {
                    int here = reached[ends[end]];
                    if (here == NONE) continue;
                    int there = departure(end / 2, here) + travel[end / 2];
                    int to = ends[end ^ 1];
                    if (reached[to] != NONE && reached[to] <= there) continue;
                    reached[to] = there;
                    sooner = true;
                }
            }
        }

        private int departure(int way, int hour) {
            if (every[way] < 1) return hour;
            return hour + Math.floorMod(first[way] - hour, every[way]);
        }
    }

    /** The text of an act to come, read token by token. */
    private static final class Text {
        static final int MOST_BYTES = 160;
        private static final int BLANK = 32, SEMICOLON = 59, MOST_DIGITS = 3, MOST_PENCE = 99;
        private static final int LETTER = 0, DIGIT = 1, OTHER = 2;
        /** The bounds of the first number of a clause, by TO .. LEAST. */
        private static final int[] LEAST_NUMBER = {1, 1, 1, 0, 0, 0};
        private static final int[] MOST_NUMBER = {999, 999, 64, 99, 99, 99};

        private final int[] bytes = new int[MOST_BYTES];
        int length;
        /** The token read last: from start on, up to end. */
        private int start;
        private int end;
        /** The clauses before the first fault. */
        final int[] kinds = new int[CLAUSES];
        final int[] numbers = new int[CLAUSES];
        final int[] pence = new int[CLAUSES];
        int clauses;

        void append(int sign) {
            if (length >= MOST_BYTES) return;
            bytes[length] = sign;
            length++;
        }

        int firstFault() {
            end = 0;
            clauses = 0;
            for (int c = 0; c < CLAUSES; c++) {
                if (!readClause()) return start;
                readToken();
                if (start >= length) return NONE;
                if (bytes[start] != SEMICOLON) return start;
            }
            // no clause may follow the last one, so its semicolon is the fault
            return start;
        }

        private boolean readClause() {
            readToken();
            int kind = clauseKind();
            if (kind == NONE || clauses >= CLAUSES) return false;
            readToken();
            int number = tokenNumber();
            if (!within(number, LEAST_NUMBER[kind], MOST_NUMBER[kind])) return false;
            numbers[clauses] = number;
            if (kind == TO || kind == OVER) {
                readToken();
                if (!isWord("pay")) return false;
                readToken();
                number = tokenNumber();
                if (!within(number, 0, MOST_PENCE)) return false;
            }
            kinds[clauses] = kind;
            pence[clauses] = number;
            clauses++;
            return true;
        }

        private void readToken() {
            start = end;
            while (start < length && bytes[start] == BLANK) start++;
            end = start;
            if (start >= length) return;
            int sort = sortOf(bytes[start]);
            end++;
            if (sort == OTHER) return;
            while (end < length && sortOf(bytes[end]) == sort) end++;
        }

        private static int sortOf(int sign) {
            if (sign >= 'a' && sign <= 'z') return LETTER;
            return sign >= '0' && sign <= '9' ? DIGIT : OTHER;
        }

        private int clauseKind() {
            if (isWord("to")) return TO;
            if (isWord("over")) return OVER;
            if (isWord("weigh")) return WEIGH;
            if (isWord("free")) return FREE;
            if (isWord("ahead")) return AHEAD;
            return isWord("least") ? LEAST : NONE;
        }

        private boolean isWord(String word) {
            if (end - start != word.length()) return false;
            for (int i = 0; i < word.length(); i++) {
                if (bytes[start + i] != word.charAt(i)) return false;
            }
            return true;
        }

        private int tokenNumber() {
            if (end - start < 1 || end - start > MOST_DIGITS || sortOf(bytes[start]) != DIGIT) return NONE;
            int number = 0;
            for (int i = start; i < end; i++) {
                number = number * 10 + bytes[i] - '0';
            }
            return number;
        }
    }

    /** An act: its clauses, the day from which it holds, and the hours in which the offices know it. */
    private static final class Act {
        private final int[] kinds = new int[CLAUSES];
        private final int[] numbers = new int[CLAUSES];
        private final int[] pence = new int[CLAUSES];
        private int clauses;
        int day;
        final int[] known = new int[TOWNS];

        void copyFrom(Text text, int fromDay) {
            System.arraycopy(text.kinds, 0, kinds, 0, CLAUSES);
            System.arraycopy(text.numbers, 0, numbers, 0, CLAUSES);
            System.arraycopy(text.pence, 0, pence, 0, CLAUSES);
            clauses = text.clauses;
            day = fromDay;
        }

        /** The to clause with the least miles that are enough, else the first over clause. */
        int clauseFor(int miles) {
            int best = NONE;
            int over = NONE;
            for (int c = 0; c < clauses; c++) {
                if (kinds[c] == TO && numbers[c] >= miles && (best == NONE || numbers[c] < numbers[best])) best = c;
                if (kinds[c] == OVER && over == NONE) over = c;
            }
            return best == NONE ? over : best;
        }

        /** Miles below 0 stand for towns that are not joined: nothing is told for them. */
        int charge(int miles, int sheets, int drams, boolean ahead) {
            int told = miles < 0 ? NONE : penceFor(miles);
            if (told == NONE) return NONE;
            int weigh = firstWeigh();
            int sum = told * (weigh == NONE ? sheets : upBy(drams, numbers[weigh]));
            int least = 0;
            for (int c = 0; c < clauses; c++) {
                if (kinds[c] == AHEAD && ahead) sum -= numbers[c];
                if (kinds[c] == LEAST) least = Math.max(least, numbers[c]);
            }
            return Math.max(sum, least);
        }

        int freeLetters() {
            int free = 0;
            for (int c = 0; c < clauses; c++) {
                if (kinds[c] == FREE) free = numbers[c];
            }
            return free;
        }

        private int penceFor(int miles) {
            int clause = clauseFor(miles);
            if (clause == NONE) return NONE;
            if (kinds[clause] == TO) return pence[clause];
            int widest = widestTo();
            int base = widest == NONE ? 0 : pence[widest];
            int beyond = widest == NONE ? miles : miles - numbers[widest];
            return base + pence[clause] * upBy(beyond, numbers[clause]);
        }

        private int widestTo() {
            int widest = NONE;
            for (int c = 0; c < clauses; c++) {
                if (kinds[c] == TO && (widest == NONE || numbers[c] > numbers[widest])) widest = c;
            }
            return widest;
        }

        private int firstWeigh() {
            for (int c = 0; c < clauses; c++) {
                if (kinds[c] == WEIGH) return c;
            }
            return NONE;
        }

        private static int upBy(int v, int by) {
            return by < 1 ? v : (v + by - 1) / by;
        }
    }

    /** The acts, and which of them an office tells. */
    private static final class Offices {
        static final int MOST_ACTS = 5;

        final Act[] acts = new Act[MOST_ACTS];
        int count;

        Offices() {
            for (int i = 0; i < MOST_ACTS; i++) {
                acts[i] = new Act();
            }
        }

        /** Word goes by the ways of this hour alone, so the hours are kept. */
        int addAct(Text text, int day, Land land, int hour) {
            Act act = acts[count];
            act.copyFrom(text, day);
            for (int town = 0; town < TOWNS; town++) {
                act.known[town] = land.arrival(0, town, hour);
            }
            return count++;
        }

        int told(int town, int hour, int day) {
            int best = NONE;
            for (int i = 0; i < count; i++) {
                int known = acts[i].known[town];
                if (known == NONE || known > hour || acts[i].day > day) continue;
                if (best == NONE || acts[i].day >= acts[best].day) best = i;
            }
            return best;
        }
    }

    private static final class Letter {
        int from;
        int to;
        int sheets;
        int drams;
        int worth;
        int kind;
        int with;
        int written;
        int state;
        int town;
        /** The town to which it goes: to at first, from once it was refused. */
        int goal;
        int comesTo;
        int comesIn;
        boolean refused;
        int paid;
        int borne;
        int ended;
        /** The end of a way from which it left in this hour, until the cost of that run is parted; else NONE. */
        int run;
        /** What was cut off its part of that cost. */
        int cut;
    }

    /** The letters, and what an hour does to them. */
    private static final class Mail {
        static final int MOST_LETTERS = 24;
        private static final int FIRST_PURSE = 200;
        private static final int BY_DRAMS = 1, BY_SHEETS = 2;

        private final Land land;
        private final Offices offices;
        private final int[] rules;
        final Letter[] letters = new Letter[MOST_LETTERS];
        final int[] purses = new int[TOWNS];
        final int[] codes = new int[TOWNS * TOWNS];
        int count;
        int hour;
        int allPaid;
        int allRuns;
        int refused;
        int given;

        Mail(Land land, Offices offices, int[] rules) {
            this.land = land;
            this.offices = offices;
            this.rules = rules;
            Arrays.fill(purses, FIRST_PURSE);
            for (int i = 0; i < MOST_LETTERS; i++) {
                letters[i] = new Letter();
            }
        }

        int chargeAhead(int from, int to, int sheets, int drams) {
            int told = offices.told(from, hour, dayOf(hour));
            if (told == NONE) return NONE;
            return offices.acts[told].charge(land.miles.between(from, to), sheets, drams, true);
        }

        Letter addLetter(int from, int to, int paid) {
            Letter letter = letters[count];
            letter.from = from;
            letter.to = to;
            letter.written = hour;
            letter.state = WAITS;
            letter.town = from;
            letter.goal = to;
            letter.ended = NONE;
            letter.run = NONE;
            pay(letter, from, paid);
            count++;
            return letter;
        }

        /** How many letters with numbers below one were franked by a member in a week. */
        int frankedIn(int member, int week, int below) {
            int franked = 0;
            for (int i = 0; i < below; i++) {
                Letter letter = letters[i];
                if (letter.kind == FRANKED && letter.with == member && weekOf(letter.written) == week) franked++;
            }
            return franked;
        }

        void passHour() {
            comeIn();
            goToDoors();
            leaveTowns();
            partRuns();
            hour++;
        }

        private void comeIn() {
            for (int i = 0; i < count; i++) {
                Letter letter = letters[i];
                if (letter.state == ON_WAY && letter.comesIn == hour) {
                    letter.state = WAITS;
                    letter.town = letter.comesTo;
                }
            }
        }

        private void goToDoors() {
            for (int i = 0; i < count; i++) {
                Letter letter = letters[i];
                if (letter.state != WAITS || letter.town != letter.goal) continue;
                if (letter.refused) {
                    letter.state = BACK;
                    letter.ended = hour;
                } else {
                    offer(letter, owed(letter, i));
                }
            }
        }

        private int owed(Letter letter, int number) {
            if (letter.kind == PAID) return 0;
            int told = offices.told(letter.to, hour, dayOf(hour));
            if (told == NONE) return 0;
            Act act = offices.acts[told];
            if (letter.kind == FRANKED) {
                int before = frankedIn(letter.with, weekOf(letter.written), number);
                if (before < act.freeLetters()) return 0;
            }
            int miles = land.miles.between(letter.from, letter.to);
            // without pence, which is NONE, nothing is owed
            return Math.max(0, act.charge(miles, letter.sheets, letter.drams, false));
        }

        private void offer(Letter letter, int owes) {
            if (isTaken(letter, owes)) {
                letter.state = GIVEN;
                letter.ended = hour;
                given++;
                pay(letter, letter.to, owes);
            } else {
                letter.refused = true;
                letter.goal = letter.from;
                refused++;
            }
        }

        private boolean isTaken(Letter letter, int owes) {
            if (owes == 0) return true;
            if (owes > letter.worth || owes > purses[letter.to]) return false;
            return !(letter.kind == PLAIN && letter.with > 0 && isCoded(letter));
        }

        private boolean isCoded(Letter letter) {
            return (codes[letter.from * TOWNS + letter.to] >> letter.with & 1) != 0;
        }

        private void pay(Letter letter, int town, int pence) {
            purses[town] -= pence;
            letter.paid += pence;
            allPaid += pence;
        }

        /** A letter that was refused in this hour waits again, so it may leave at once. */
        private void leaveTowns() {
            for (int i = 0; i < count; i++) {
                Letter letter = letters[i];
                // to look for the next way is dear, and in vain where none leaves
                if (letter.state == WAITS && land.anyLeaves(letter.town, hour)) leave(letter);
            }
        }

        private void leave(Letter letter) {
            int end = land.bestEnd(letter.town, letter.goal, hour);
            if (end == NONE || !land.leavesIn(end / 2, hour)) return;
            letter.state = ON_WAY;
            letter.comesTo = land.ends[end ^ 1];
            letter.comesIn = hour + land.travel[end / 2];
            letter.run = end;
        }

        private void partRuns() {
            for (int i = 0; i < count; i++) {
                if (letters[i].run != NONE) partRun(letters[i].run);
            }
        }

        private void partRun(int run) {
            int cost = land.cost[run / 2];
            int all = 0;
            for (int i = 0; i < count; i++) {
                if (letters[i].run == run) all += partOf(letters[i]);
            }
            if (all < 1) return;
            int rest = cost;
            for (int i = 0; i < count; i++) {
                Letter letter = letters[i];
                if (letter.run != run) continue;
                int whole = cost * partOf(letter);
                letter.borne += whole / all;
                letter.cut = whole % all;
                rest -= whole / all;
            }
            for (int penny = 0; penny < rest; penny++) {
                addPenny(run);
            }
            endRun(run);
            allRuns += cost;
        }

        private int partOf(Letter letter) {
            if (rules[KEY] == BY_DRAMS) return letter.drams;
            return rules[KEY] == BY_SHEETS ? letter.sheets : 1;
        }

        private void addPenny(int run) {
            int most = NONE;
            for (int i = 0; i < count; i++) {
                if (letters[i].run == run && (most == NONE || letters[i].cut > letters[most].cut)) most = i;
            }
            if (most == NONE) return;
            letters[most].borne++;
            // below all that can be cut off: it gets no second penny
            letters[most].cut = NONE;
        }

        private void endRun(int run) {
            for (int i = 0; i < count; i++) {
                if (letters[i].run == run) letters[i].run = NONE;
            }
        }
    }

    /** Members who were met, and stamps that came again. */
    private static final class Watch {
        static final int MOST_MEETINGS = 12;

        private final Land land;
        private final Mail mail;
        private final int[] rules;
        private final int[] who = new int[MOST_MEETINGS];
        private final int[] where = new int[MOST_MEETINGS];
        private final int[] when = new int[MOST_MEETINGS];
        int meetings;
        /** By letter: the letters, by bits, to which its stamp may be washed. */
        private final int[] washable = new int[Mail.MOST_LETTERS];
        /** By letter: the one behind which it stands in its row, or NONE. */
        private final int[] ahead = new int[Mail.MOST_LETTERS];
        private int seen;

        Watch(Land land, Mail mail, int[] rules) {
            this.land = land;
            this.mail = mail;
            this.rules = rules;
        }

        int addMeeting(int member, int town, int hour) {
            who[meetings] = member;
            where[meetings] = town;
            when[meetings] = hour;
            meetings++;
            return meetings;
        }

        boolean isElsewhere(Letter letter) {
            for (int i = 0; i < meetings; i++) {
                if (who[i] != letter.with) continue;
                boolean before = when[i] <= letter.written;
                if (before && !isDueBy(where[i], letter.from, when[i], letter.written)) return true;
                if (!before && !isDueBy(letter.from, where[i], letter.written, when[i])) return true;
            }
            return false;
        }

        int lettersWith(int stamp) {
            int set = 0;
            for (int i = 0; i < mail.count; i++) {
                if (mail.letters[i].kind == PAID && mail.letters[i].with == stamp) set |= 1 << i;
            }
            return set;
        }

        /** A row is begun by each letter that no other can stand ahead of, so most pairs make fewest rows. */
        int forgeries(int stamp) {
            int set = lettersWith(stamp);
            if (set == 0) return 0;
            findWashable(set);
            int rows = Integer.bitCount(set);
            for (int i = 0; i < mail.count; i++) {
                seen = 0;
                if (washable[i] != 0 && findFollower(i, 0)) rows--;
            }
            return rows - 1;
        }

        /** A letter is given behind the hour in which it was written, so none can be washed from itself. */
        private void findWashable(int set) {
            for (int i = 0; i < mail.count; i++) {
                Letter one = mail.letters[i];
                ahead[i] = NONE;
                washable[i] = 0;
                if ((set >> i & 1) == 0 || one.state != GIVEN) continue;
                land.spreadFrom(one.to, one.ended + rules[WASH]);
                for (int j = 0; j < mail.count; j++) {
                    Letter other = mail.letters[j];
                    int there = land.reached[other.from];
                    if ((set >> j & 1) != 0 && there != NONE && there <= other.written) washable[i] |= 1 << j;
                }
            }
        }

        private boolean isDueBy(int from, int to, int hour, int by) {
            int there = land.arrival(from, to, hour);
            return there != NONE && there <= by;
        }

        /** Each letter is seen once, so the depth stays below their number. */
        private boolean findFollower(int letter, int depth) {
            if (depth >= Mail.MOST_LETTERS) return false;
            for (int j = 0; j < mail.count; j++) {
                if ((washable[letter] & ~seen & 1 << j) == 0) continue;
                seen |= 1 << j;
                if (ahead[j] == NONE || findFollower(ahead[j], depth + 1)) {
                    ahead[j] = letter;
                    return true;
                }
            }
            return false;
        }
    }

    /** Doors, the paths between them, boxes and walks. */
    private static final class Street {
        static final int MOST_DOORS = 12, MOST_PATHS = 24;
        private static final int MOST_STOPS = MOST_DOORS - 1;
        private static final int UNWALKED = 100000000;

        private final Distances lengths = new Distances(MOST_DOORS);
        int count = 1;
        int paths;
        /** By door: the doors, by bits, within reach of it. */
        private final int[] near = new int[MOST_DOORS];
        private final int[] stops = new int[MOST_STOPS];
        /** By the stops that were seen and the last of them: the least length from door 0. */
        private final int[] walked = new int[(1 << MOST_STOPS) * MOST_STOPS];

        void build(int n) {
            count = n;
            paths = 0;
            lengths.clear();
        }

        int addPath(int a, int b, int length) {
            lengths.join(a, b, length);
            paths++;
            return paths;
        }

        /** Sets come by their numbers, so of several as few the least stays. */
        int fewestBoxes(int reach) {
            findNear(reach);
            int all = (1 << count) - 1;
            int best = all;
            for (int set = 1; set <= all; set++) {
                if (Integer.bitCount(set) < Integer.bitCount(best) && nearTo(set) == all) best = set;
            }
            return best;
        }

        private void findNear(int reach) {
            for (int i = 0; i < count; i++) {
                near[i] = 0;
                for (int j = 0; j < count; j++) {
                    int length = lengths.between(i, j);
                    if (length != NONE && length <= reach) near[i] |= 1 << j;
                }
            }
        }

        private int nearTo(int set) {
            int reached = 0;
            for (int i = 0; i < count; i++) {
                if ((set >> i & 1) != 0) reached |= near[i];
            }
            return reached;
        }

        int round(int set) {
            int n = 0;
            for (int door = 1; door < count; door++) {
                if ((set >> door & 1) == 0) continue;
                if (lengths.between(0, door) == NONE) return NONE;
                stops[n] = door;
                n++;
            }
            return n == 0 ? 0 : roundOf(n);
        }

        private int roundOf(int n) {
            int all = (1 << n) - 1;
            Arrays.fill(walked, 0, (all + 1) * MOST_STOPS, UNWALKED);
            for (int i = 0; i < n; i++) {
                walked[(1 << i) * MOST_STOPS + i] = lengths.between(0, stops[i]);
            }
            for (int seen = 1; seen < all; seen++) {
                for (int last = 0; last < n; last++) {
                    if ((seen >> last & 1) != 0) goOn(seen, last, n);
                }
            }
            int least = UNWALKED;
            for (int last = 0; last < n; last++) {
                least = Math.min(least, walked[all * MOST_STOPS + last] + lengths.between(stops[last], 0));
            }
            return least;
        }

        private void goOn(int seen, int last, int n) {
            int length = walked[seen * MOST_STOPS + last];
            for (int to = 0; to < n; to++) {
                if ((seen >> to & 1) != 0) continue;
                int place = (seen | 1 << to) * MOST_STOPS + to;
                walked[place] = Math.min(walked[place], length + lengths.between(stops[last], stops[to]));
            }
        }
    }

    /** What is written at which price, and plans of prices. */
    private static final class Market {
        static final int MOST_WANTS = 8, MOST_PRICES = 6, MOST_TIMES = 60;
        /** The loss counts so many letters for one time EACH. */
        private static final int PARTS = 6;

        private final int[] rules;
        final int[] from = new int[MOST_WANTS];
        final int[] to = new int[MOST_WANTS];
        final int[] people = new int[MOST_WANTS];
        private final int[] worth = new int[MOST_WANTS];
        /** A row of wants for each year: the times as told, and as they become behind each year. */
        final int[] times = new int[(MOST_YEARS + 1) * MOST_WANTS];
        int wants;
        private final int[] prices = new int[MOST_PRICES];
        int priceCount;
        /** Letters by smugglers in the year that passed last. */
        int smuggled;
        private final int[] tried = new int[MOST_YEARS];
        final int[] best = new int[MOST_YEARS];
        int bestLetters;
        int bestDebt;

        Market(int[] rules) {
            this.rules = rules;
        }

        int addWant(int start, int end, int persons, int value, int yearly) {
            from[wants] = start;
            to[wants] = end;
            people[wants] = persons;
            worth[wants] = value;
            times[wants] = yearly;
            return wants++;
        }

        int addPrice(int v) {
            prices[priceCount] = v;
            priceCount++;
            return priceCount;
        }

        boolean isPosted(int w, int price) {
            return price <= worth[w] && (rules[SMUGGLERS] == NONE || price <= rules[SMUGGLERS]);
        }

        /** Letters by the post in a year (from 0); the times of the year behind it are told then. */
        int passYear(int year, int price) {
            int posted = 0;
            smuggled = 0;
            for (int w = 0; w < wants; w++) {
                int now = times[year * MOST_WANTS + w];
                int then = now;
                if (isPosted(w, price)) {
                    posted += people[w] * now;
                    if (price <= worth[w] / 2) then = Math.min(MOST_TIMES, now + rules[GROW]);
                } else if (isSmuggled(w)) {
                    smuggled += people[w] * now;
                } else {
                    then = Math.max(0, now - 1);
                }
                times[(year + 1) * MOST_WANTS + w] = then;
            }
            return posted;
        }

        int loss(int posted, int price) {
            return rules[FIXED] + (rules[EACH] * posted + PARTS - 1) / PARTS - posted * price;
        }

        boolean findBest(int years) {
            bestLetters = NONE;
            bestDebt = 0;
            tryYear(0, years, 0, 0);
            return bestLetters != NONE;
        }

        /** Plans come by numbers, year by year, so the first of several alike stays; years are few, and so the depth. */
        private void tryYear(int year, int years, int letters, int debt) {
            if (year >= years || year >= MOST_YEARS) {
                keepBetter(years, letters, debt);
                return;
            }
            for (int i = 0; i < priceCount; i++) {
                int posted = passYear(year, prices[i]);
                int owing = debt + loss(posted, prices[i]);
                if (owing > rules[LIMIT]) continue;
                tried[year] = prices[i];
                tryYear(year + 1, years, letters + posted, owing);
            }
        }

        private void keepBetter(int years, int letters, int debt) {
            if (letters < bestLetters || letters == bestLetters && debt >= bestDebt) return;
            bestLetters = letters;
            bestDebt = debt;
            System.arraycopy(tried, 0, best, 0, years);
        }

        private boolean isSmuggled(int w) {
            return rules[SMUGGLERS] != NONE && rules[SMUGGLERS] <= worth[w];
        }
    }
}
