/**
 * Gates that are bent to the comer: they know walks and let by who walks like one of them.
 * The numbered promises of the document tell what each public method answers.
 */
public final class GatesBent {
    public static final int NONE = -1, BAD = -2, STATE = -3, FULL = -4;
    public static final long NO = Long.MIN_VALUE;

    private static final int ABSENT = -5;
    private static final int NO_LIKE = -10001;
    private static final int NOTHING = -11, CAST = -12, PLACE = -13, SIZE = -14;

    private static final int MARKS = 12, WALKS = 4096;
    private static final int GATES = 4, COMERS = 6, KNOWN = 3;
    private static final int KINDS = 7;
    private static final int PLAIN = 0, KIN = 1, SHAM = 2, DOG = 3, AGED = 4, BURGLAR = 5, TOLD = 6;
    private static final int NO_KIND = -1;
    private static final int DIGITS = 10;
    private static final int DAYS_AHEAD = 60, LAST_DAY = 9999, MOST_PASSED = 9999;

    private static final int TEXT_MOST = 100, CLAUSES = 10, NESTED = 4, HOUSES = 6;
    private static final int NEED_WITHOUT = 10;
    private static final int HELP_WORD = 0, HINDER_WORD = 1, NEED_WORD = 2, AGE_WORD = 3, WORDS = 4;
    private static final String LETTERS = "pkvgtd", SIGNS_OF_TESTS = "<=>";

    /** What a house does step by step; below NOT stand the tests: 3 times the letter, and the sign. */
    private static final int NOT = 18, AND = 19, OR = 20, HELP = 21, HINDER = 22;

    private static final int SEEN_ROWS = 5, PLAN_ROWS = 10, BOOK_ROWS = 8;
    private static final int A_DAY = 0, A_LESSON = 1, A_FORGETTING = 2, NO_TRIES = 3;
    private static final int LESSONS = 3;

    private static final int BODIES_KEPT = 20, BODIES_DEEP = 16;
    private static final int WALKS_ACT = 0, KNOCKS_ACT = 1, TELLS_ACT = 2;

    private static final int TAPES = 6, ITEMS = 60;
    private static final int NO_SORT = -1, BYTES = 0, SHORTS = 1, INTS = 2, BOOLEANS = 4;

    /** A comer with all that is its own. */
    private static final class Comer {
        int number;
        int kind;
        int v;
        int walk;
        int gate;
        int tries;
        int passed;
        final int[] row = new int[GATES];

        Comer(int number) {
            this.number = number;
        }

        void become(Comer other) {
            number = other.number;
            kind = other.kind;
            v = other.v;
            walk = other.walk;
            gate = other.gate;
            tries = other.tries;
            passed = other.passed;
            System.arraycopy(other.row, 0, row, 0, GATES);
        }

        void begin(int ofKind, int withV, int withWalk, int atGate) {
            kind = ofKind;
            v = withV;
            walk = withWalk;
            gate = atGate;
            tries = 0;
            passed = 0;
            for (int part = 0; part < GATES; part++) {
                row[part] = 0;
            }
        }
    }

    /** A gate: the walks that it knows, one behind the other. */
    private static final class Gate {
        final int[] walks = new int[KNOWN];
        int known;

        void become(Gate other) {
            known = other.known;
            System.arraycopy(other.walks, 0, walks, 0, KNOWN);
        }

        /** The walk that it knows no more by this one, or ABSENT. */
        int learn(int walk) {
            int lost = ABSENT;
            if (known >= KNOWN) {
                int place = leastAlike(walk);
                lost = walks[place];
                for (int k = place; k + 1 < KNOWN; k++) {
                    walks[k] = walks[k + 1];
                }
                known = KNOWN - 1;
            }
            walks[known] = walk;
            known++;
            return lost;
        }

        private int leastAlike(int walk) {
            int place = 0;
            for (int k = 1; k < known; k++) {
                if (alike(walks[k], walk) < alike(walks[place], walk)) {
                    place = k;
                }
            }
            return place;
        }

        /** Whether it knows a walk in which at least so many marks are as in this one. */
        boolean knowsAlike(int walk, int marksNeeded) {
            for (int k = 0; k < known; k++) {
                if (alike(walks[k], walk) >= marksNeeded) {
                    return true;
                }
            }
            return false;
        }
    }

    /** Rows told by hand, of up to three numbers each. */
    private static final class Rows {
        final int[] first;
        final int[] second;
        final int[] third;
        int many;

        Rows(int most) {
            first = new int[most];
            second = new int[most];
            third = new int[most];
        }

        void become(Rows other) {
            many = other.many;
            System.arraycopy(other.first, 0, first, 0, first.length);
            System.arraycopy(other.second, 0, second, 0, second.length);
            System.arraycopy(other.third, 0, third, 0, third.length);
        }

        /** How many there are then, or FULL. */
        int add(int a, int b, int c) {
            if (many >= first.length) {
                return FULL;
            }
            first[many] = a;
            second[many] = b;
            third[many] = c;
            many++;
            return many;
        }

        int clear() {
            many = 0;
            return many;
        }
    }

    /** A house that has been read: its help and hinder clauses as steps, each E ahead of its clause. */
    private static final class House {
        private final int[] ops;
        private final int[] numbers;
        private int length;
        int need;
        int age;

        House(int most) {
            ops = new int[most];
            numbers = new int[most];
            need = NEED_WITHOUT;
        }

        void clear() {
            length = 0;
            need = NEED_WITHOUT;
            age = 0;
        }

        void put(int op, int number) {
            if (length < ops.length) {
                ops[length] = op;
                numbers[length] = number;
                length++;
            }
        }

        /** The n of all help that holds, less those of all hinder that hold. */
        int bonus(Comer comer, int gate, int day) {
            int sum = 0;
            // What is true so far, a bit each, the newest lowest: nesting ends at 4, so few bits ever wait.
            int bits = 0;
            for (int i = 0; i < length; i++) {
                int op = ops[i];
                int newest = bits & 1;
                if (op < NOT) {
                    boolean isSo = isSo(valueOf(op / 3, comer, gate, day), op % 3, numbers[i]);
                    bits = (bits << 1) | (isSo ? 1 : 0);
                } else if (op == NOT) {
                    bits ^= 1;
                } else if (op == AND) {
                    bits = (bits >> 1) & (newest == 1 ? -1 : -2);
                } else if (op == OR) {
                    bits = (bits >> 1) | newest;
                } else {
                    if (newest == 1) {
                        sum += op == HELP ? numbers[i] : -numbers[i];
                    }
                    bits = 0;
                }
            }
            return sum;
        }

        private static int valueOf(int letter, Comer comer, int gate, int day) {
            switch (letter) {
                case 0: return comer.number;
                case 1: return comer.kind;
                case 2: return comer.v;
                case 3: return gate;
                case 4: return comer.tries;
                default: return day % 10;
            }
        }

        private static boolean isSo(int value, int sign, int number) {
            if (sign == 0) {
                return value < number;
            }
            return sign == 1 ? value == number : value > number;
        }
    }

    /** THE TEXT, and how it is read: each part says whether it stands; if not, place is the FAULT. */
    private static final class Reader {
        final byte[] text = new byte[TEXT_MOST];
        int length;
        int place;
        private House house;

        boolean readHouse(House into) {
            house = into;
            house.clear();
            place = 0;
            for (int clause = 1; clause <= CLAUSES; clause++) {
                if (!readClause()) {
                    return false;
                }
                if (place >= length) {
                    return true;
                }
                if (clause == CLAUSES || !readSign(';')) {
                    return false;
                }
            }
            return false;
        }

        private boolean readClause() {
            int word = readWord();
            if (word < 0 || !readSign(' ')) {
                return false;
            }
            int n = readNumber();
            if (n < 0) {
                return false;
            }
            if (word == NEED_WORD) {
                house.need = n;
                return true;
            }
            if (word == AGE_WORD) {
                house.age = n;
                return true;
            }
            if (!readSign(' ') || !readEither(0)) {
                return false;
            }
            house.put(word == HELP_WORD ? HELP : HINDER, n);
            return true;
        }

        /** The word that stands at place, or -1: then place is behind the most of any word that does. */
        private int readWord() {
            int most = 0;
            for (int word = 0; word < WORDS; word++) {
                String signs = wordOf(word);
                int same = sameSigns(signs);
                if (same == signs.length()) {
                    place += same;
                    return word;
                }
                most = Math.max(most, same);
            }
            place += most;
            return -1;
        }

        private static String wordOf(int word) {
            switch (word) {
                case HELP_WORD: return "help";
                case HINDER_WORD: return "hinder";
                case NEED_WORD: return "need";
                default: return "age";
            }
        }

        private int sameSigns(String signs) {
            int same = 0;
            while (same < signs.length() && place + same < length && text[place + same] == signs.charAt(same)) {
                same++;
            }
            return same;
        }

        /** T|T|.., each T F&F&..: an OR waits until the T behind its | is whole. */
        private boolean readEither(int depth) {
            if (!readFactor(depth)) {
                return false;
            }
            boolean isOrDue = false;
            for (int sign = 0; sign < TEXT_MOST; sign++) {
                if (readSign('&')) {
                    if (!readFactor(depth)) {
                        return false;
                    }
                    house.put(AND, 0);
                } else {
                    if (isOrDue) {
                        house.put(OR, 0);
                    }
                    if (!readSign('|')) {
                        return true;
                    }
                    isOrDue = true;
                    if (!readFactor(depth)) {
                        return false;
                    }
                }
            }
            return false;
        }

        /** The depth: how many ( and ! it stands within. */
        private boolean readFactor(int depth) {
            int sign = signAt();
            if (sign != '!' && sign != '(') {
                return readTest();
            }
            if (depth >= NESTED) {
                return false;
            }
            place++;
            if (sign == '(') {
                return readEither(depth + 1) && readSign(')');
            }
            if (!readFactor(depth + 1)) {
                return false;
            }
            house.put(NOT, 0);
            return true;
        }

        private boolean readTest() {
            int letter = readOneOf(LETTERS);
            if (letter < 0) {
                return false;
            }
            int sign = readOneOf(SIGNS_OF_TESTS);
            if (sign < 0) {
                return false;
            }
            int number = readNumber();
            if (number < 0) {
                return false;
            }
            house.put(3 * letter + sign, number);
            return true;
        }

        /** One or two digits, or -1. */
        private int readNumber() {
            int n = -1;
            for (int digit = 0; digit < 2; digit++) {
                int sign = signAt();
                if (sign < '0' || sign > '9') {
                    return n;
                }
                n = Math.max(n, 0) * 10 + (sign - '0');
                place++;
            }
            return n;
        }

        private int readOneOf(String signs) {
            int sign = signAt();
            for (int i = 0; i < signs.length(); i++) {
                if (signs.charAt(i) == sign) {
                    place++;
                    return i;
                }
            }
            return -1;
        }

        private boolean readSign(int sign) {
            if (signAt() != sign) {
                return false;
            }
            place++;
            return true;
        }

        private int signAt() {
            return place < length ? text[place] : -1;
        }
    }

    /** All that THE IMAGE keeps, and how days go in it. */
    private static final class Town {
        final Gate[] gates = new Gate[GATES];
        final Comer[] comers = new Comer[COMERS];
        final Rows seen = new Rows(SEEN_ROWS);
        final Rows plan = new Rows(PLAN_ROWS);
        final Rows book = new Rows(BOOK_ROWS);
        int many;
        int day;
        House house;

        Town(House withoutClauses) {
            house = withoutClauses;
            for (int g = 0; g < GATES; g++) {
                gates[g] = new Gate();
            }
            for (int p = 0; p < COMERS; p++) {
                comers[p] = new Comer(p);
            }
        }

        void become(Town other) {
            for (int g = 0; g < GATES; g++) {
                gates[g].become(other.gates[g]);
            }
            for (int p = 0; p < COMERS; p++) {
                comers[p].become(other.comers[p]);
            }
            seen.become(other.seen);
            plan.become(other.plan);
            book.become(other.book);
            many = other.many;
            day = other.day;
            house = other.house;
        }

        int likeToWalk(Comer comer, int gate, int walk) {
            return likeBySum(comer, gate, alike(comer.walk, walk) + house.bonus(comer, gate, day));
        }

        private int likeBySum(Comer comer, int gate, int sum) {
            switch (comer.kind) {
                case KIN: return sum + comer.v;
                case SHAM: return sum / 2 + 4;
                case DOG: return comer.gate == gate ? sum : 0;
                case AGED: return sum + comer.v - Math.min(day / 10, 9);
                case BURGLAR: return sum / 2 + 4 + comer.tries;
                case TOLD: return (comer.gate == gate ? sum : 0) + comer.row[gate];
                default: return sum;
            }
        }

        /**
         * How many marks of its walk and of a known one must be alike at least (13: no number is enough).
         * One number tells it, for with more marks alike nobody is less like.
         */
        int marksNeeded(Comer comer, int gate) {
            int bonus = house.bonus(comer, gate, day);
            for (int marks = 0; marks <= MARKS; marks++) {
                if (likeBySum(comer, gate, marks + bonus) >= house.need) {
                    return marks;
                }
            }
            return MARKS + 1;
        }

        boolean letsBy(Comer comer, int gate) {
            return gates[gate].knowsAlike(comer.walk, marksNeeded(comer, gate));
        }

        /** Who is let by at its own gate, as bits. */
        int whoIsLet() {
            int bits = 0;
            for (int p = 0; p < many; p++) {
                if (letsBy(comers[p], comers[p].gate)) {
                    bits |= 1 << p;
                }
            }
            return bits;
        }

        int passedTogether() {
            int sum = 0;
            for (int p = 0; p < many; p++) {
                sum += comers[p].passed;
            }
            return sum;
        }

        void goDays(int n) {
            for (int i = 0; i < n; i++) {
                for (int p = 0; p < many; p++) {
                    spendDay(comers[p]);
                }
                day++;
            }
        }

        /** What this day does to one comer: no other one's day hangs on it. */
        void spendDay(Comer comer) {
            if (letsBy(comer, comer.gate)) {
                comer.passed++;
            } else if (comer.tries < DIGITS - 1) {
                comer.tries++;
            }
            if (house.age > 0 && day % house.age == 0) {
                comer.walk ^= 1 << ((comer.number + day) % MARKS);
            }
        }

        void goByPlan() {
            for (int i = 0; i < plan.many; i++) {
                int n = plan.second[i];
                switch (plan.first[i]) {
                    case A_DAY: goDays(1); break;
                    case A_LESSON: gates[n / 10].learn(comers[n % 10].walk); break;
                    case A_FORGETTING: gates[n].known = 0; break;
                    default: comers[n].tries = 0; break;
                }
            }
        }
    }

    /** A row of a sort, or nothing. */
    private static final class Tape {
        final long[] items = new long[ITEMS];
        int sort = NO_SORT;
        int length;

        void become(int newSort, int n) {
            sort = newSort;
            length = n;
            for (int i = 0; i < ITEMS; i++) {
                items[i] = 0;
            }
        }

        boolean hasPlace(int i) {
            return i >= 0 && i < length;
        }

        boolean hasPlaces(int i, int n) {
            return i >= 0 && n >= 0 && i <= length && n <= length - i;
        }

        void put(int i, long v) {
            if (hasPlace(i)) {
                items[i] = cut(v);
            }
        }

        private long cut(long v) {
            switch (sort) {
                case BYTES: return (byte) v;
                case SHORTS: return (short) v;
                case INTS: return (int) v;
                case BOOLEANS: return v != 0 ? 1 : 0;
                default: return v;
            }
        }
    }

    private final Town now;
    private final Town kept;
    private final Town ahead;
    private boolean isImageTaken;
    private final Reader reader = new Reader();
    private final House[] houses = new House[HOUSES];
    private int houseCount;
    private final int[] bodies = new int[BODIES_KEPT];
    private int bodiesRun;
    private final Tape[] tapes = new Tape[TAPES];

    /** Rows that are used again by each asking, so that no call makes any. */
    private final Gate trial = new Gate();
    private final Comer probe = new Comer(0);
    private final int[] neededByComer = new int[COMERS];
    private final int[] neededByGate = new int[GATES];

    public GatesBent() {
        House withoutClauses = new House(0);
        now = new Town(withoutClauses);
        kept = new Town(withoutClauses);
        ahead = new Town(withoutClauses);
        for (int t = 0; t < TAPES; t++) {
            tapes[t] = new Tape();
        }
    }

    // ---- what more than one promise needs

    private static int alike(int walk, int other) {
        return MARKS - Integer.bitCount(walk ^ other);
    }

    private static boolean isIn(int n, int below) {
        return n >= 0 && n < below;
    }

    private boolean isComer(int comer) {
        return isIn(comer, now.many);
    }

    private static long lowest(int above, int below, int part) {
        int common = 1;
        for (int d = 2; d <= below; d++) {
            if (above % d == 0 && below % d == 0) {
                common = d;
            }
        }
        return part == 0 ? above / common : below / common;
    }

    private Town aheadBy(int days) {
        ahead.become(now);
        ahead.goDays(days);
        return ahead;
    }

    // ---- comers, gates, houses

    public int comer(int kind, int v, int walk, int gate) {
        if (!isIn(kind, KINDS) || !isIn(gate, GATES)) {
            return NONE;
        }
        if (!isIn(v, DIGITS) || !isIn(walk, WALKS)) {
            return BAD;
        }
        if (now.many >= COMERS) {
            return FULL;
        }
        now.comers[now.many].begin(kind, v, walk, gate);
        now.many++;
        return now.many - 1;
    }

    public int of(int comer, int what) {
        if (!isComer(comer)) {
            return NONE;
        }
        Comer one = now.comers[comer];
        if (isIn(what - 10, GATES)) {
            return now.letsBy(one, what - 10) ? 1 : 0;
        }
        if (isIn(what - 20, GATES)) {
            return nearest(one, what - 20);
        }
        switch (what) {
            case 0: return one.kind;
            case 1: return one.v;
            case 2: return one.walk;
            case 3: return one.gate;
            case 4: return one.tries;
            case 5: return one.passed;
            case 6: return daysUntilOut(comer);
            default: return NONE;
        }
    }

    private int nearest(Comer comer, int gate) {
        Gate at = now.gates[gate];
        int place = ABSENT;
        int most = 0;
        for (int k = 0; k < at.known; k++) {
            int like = now.likeToWalk(comer, gate, at.walks[k]);
            if (place == ABSENT || like > most) {
                place = k;
                most = like;
            }
        }
        return place;
    }

    private int daysUntilOut(int comer) {
        ahead.become(now);
        Comer one = ahead.comers[comer];
        for (int days = 0; days <= DAYS_AHEAD; days++) {
            if (!ahead.letsBy(one, one.gate)) {
                return days;
            }
            ahead.spendDay(one);
            ahead.day++;
        }
        return ABSENT;
    }

    public int set(int comer, int what, int n) {
        if (!isComer(comer) || !isIn(what, 3)) {
            return NONE;
        }
        if (!isIn(n, what == 0 ? WALKS : what == 1 ? GATES : DIGITS)) {
            return BAD;
        }
        Comer one = now.comers[comer];
        int before;
        if (what == 0) {
            before = one.walk;
            one.walk = n;
        } else if (what == 1) {
            before = one.gate;
            one.gate = n;
        } else {
            before = one.tries;
            one.tries = n;
        }
        return before;
    }

    public int like(int comer, int gate, int k) {
        if (!isComer(comer) || !isIn(gate, GATES) || !isIn(k, now.gates[gate].known)) {
            return NO_LIKE;
        }
        return now.likeToWalk(now.comers[comer], gate, now.gates[gate].walks[k]);
    }

    public int teach(int gate, int comer) {
        if (!isIn(gate, GATES) || !isComer(comer)) {
            return NONE;
        }
        return now.gates[gate].learn(now.comers[comer].walk);
    }

    public int forget(int gate) {
        if (!isIn(gate, GATES)) {
            return NONE;
        }
        int known = now.gates[gate].known;
        now.gates[gate].known = 0;
        return known;
    }

    public int row(int comer, int part, int n) {
        if (!isComer(comer) || !isIn(part, GATES)) {
            return NONE;
        }
        if (!isIn(n, DIGITS)) {
            return BAD;
        }
        Comer one = now.comers[comer];
        if (one.kind != TOLD) {
            return STATE;
        }
        int before = one.row[part];
        one.row[part] = n;
        return before;
    }

    public int feed(int sign) {
        if (!isIn(sign, 128)) {
            return BAD;
        }
        if (reader.length >= TEXT_MOST) {
            return FULL;
        }
        reader.text[reader.length] = (byte) sign;
        reader.length++;
        return reader.length;
    }

    public int house() {
        if (houseCount >= HOUSES) {
            return FULL;
        }
        // A place that a fault left is read into again: no town holds that house.
        if (houses[houseCount] == null) {
            houses[houseCount] = new House(TEXT_MOST);
        }
        House next = houses[houseCount];
        boolean isRead = reader.readHouse(next);
        reader.length = 0;
        if (!isRead) {
            return -10 - reader.place;
        }
        now.house = next;
        houseCount++;
        return houseCount - 1;
    }

    public int told(int what) {
        if (isIn(what - 10, GATES * KNOWN)) {
            Gate at = now.gates[(what - 10) / KNOWN];
            int k = (what - 10) % KNOWN;
            return k < at.known ? at.walks[k] : ABSENT;
        }
        if (isIn(what - 30, GATES)) {
            return master(what - 30);
        }
        if (isIn(what - 40, GATES)) {
            return letByWalkAlone(master(what - 40));
        }
        switch (what) {
            case 0: return now.day;
            case 1: return now.house.need;
            case 2: return now.house.age;
            case 3: return now.whoIsLet();
            case 4: return now.passedTogether();
            default: return NONE;
        }
    }

    private void askNeededByComer(int gate) {
        for (int p = 0; p < now.many; p++) {
            neededByComer[p] = now.marksNeeded(now.comers[p], gate);
        }
    }

    private int master(int gate) {
        askNeededByComer(gate);
        int best = 0;
        int most = -1;
        for (int walk = 0; walk < WALKS && most < now.many; walk++) {
            int let = letByWalkAlone(walk);
            if (let > most) {
                most = let;
                best = walk;
            }
        }
        return best;
    }

    private int letByWalkAlone(int walk) {
        int let = 0;
        for (int p = 0; p < now.many; p++) {
            if (alike(now.comers[p].walk, walk) >= neededByComer[p]) {
                let++;
            }
        }
        return let;
    }

    // ---- days

    public int pass(int n) {
        if (!isIn(n, DAYS_AHEAD + 1)) {
            return BAD;
        }
        if (now.day + n > LAST_DAY) {
            return STATE;
        }
        now.goDays(n);
        return now.day;
    }

    public int on(int n, int what) {
        if (what != 0 && !isComer(what - 10) && !isComer(what - 20)) {
            return NONE;
        }
        if (!isIn(n, DAYS_AHEAD + 1)) {
            return BAD;
        }
        Town then = aheadBy(n);
        if (what == 0) {
            return then.whoIsLet();
        }
        return isComer(what - 10) ? then.comers[what - 10].passed : then.comers[what - 20].walk;
    }

    // ---- lessons, feigning

    public int lessons(int gate, int n, int k) {
        if (!isIn(gate, GATES) || k < -1 || k >= LESSONS) {
            return NONE;
        }
        if (n < 1 || n > LESSONS) {
            return BAD;
        }
        if (now.many == 0) {
            return k == -1 ? 0 : ABSENT;
        }
        if (k >= n) {
            return ABSENT;
        }
        int best = bestLessons(gate, n);
        return k == -1 ? letByLessons(gate, n, best) : pupil(best, n, k);
    }

    /** A row of comers is told as one number, of n digits to the base of how many comers there are. */
    private int bestLessons(int gate, int n) {
        askNeededByComer(gate);
        int rows = 1;
        for (int k = 0; k < n; k++) {
            rows *= now.many;
        }
        int best = 0;
        int most = -1;
        for (int row = 0; row < rows; row++) {
            int let = letByLessons(gate, n, row);
            if (let > most) {
                most = let;
                best = row;
            }
        }
        return best;
    }

    private int pupil(int row, int n, int k) {
        if (now.many == 0) {
            return 0;
        }
        int rest = row;
        for (int behind = k + 1; behind < n; behind++) {
            rest /= now.many;
        }
        return rest % now.many;
    }

    private int letByLessons(int gate, int n, int row) {
        trial.become(now.gates[gate]);
        for (int k = 0; k < n; k++) {
            trial.learn(now.comers[pupil(row, n, k)].walk);
        }
        int let = 0;
        for (int p = 0; p < now.many; p++) {
            if (trial.knowsAlike(now.comers[p].walk, neededByComer[p])) {
                let++;
            }
        }
        return let;
    }

    public int feign(int comer, int gate, int what) {
        if (!isComer(comer) || !isIn(gate, GATES) || !isIn(what, 2)) {
            return NONE;
        }
        Comer one = now.comers[comer];
        int needed = now.marksNeeded(one, gate);
        int fewest = MARKS + 1;
        int best = ABSENT;
        for (int walk = 0; walk < WALKS; walk++) {
            int changed = MARKS - alike(one.walk, walk);
            if (changed < fewest && now.gates[gate].knowsAlike(walk, needed)) {
                fewest = changed;
                best = walk;
            }
        }
        return best == ABSENT || what == 1 ? best : fewest;
    }

    // ---- seen, odds

    public int see(int comer, int gate, boolean isLet) {
        if (comer == -1) {
            return now.seen.clear();
        }
        if (!isComer(comer) || !isIn(gate, GATES)) {
            return NONE;
        }
        return now.seen.add(comer, gate, isLet ? 1 : 0);
    }

    public int wrong() {
        Rows seen = now.seen;
        for (int i = 0; i < seen.many; i++) {
            boolean isLet = now.letsBy(now.comers[seen.first[i]], seen.second[i]);
            if (isLet != (seen.third[i] == 1)) {
                return i;
            }
        }
        return ABSENT;
    }

    public int can(int comer, int which, int what) {
        if (!isComer(comer) || !isIn(which, 2) || !isIn(what, 2)) {
            return NONE;
        }
        return which == 0 ? walksBySeen(comer, what) : numbersBySeen(comer, what);
    }

    private int walksBySeen(int comer, int what) {
        probe.become(now.comers[comer]);
        askNeededByGate();
        int found = 0;
        int least = ABSENT;
        for (int walk = WALKS - 1; walk >= 0; walk--) {
            probe.walk = walk;
            if (isAllSeenSo()) {
                found++;
                least = walk;
            }
        }
        return what == 0 ? found : least;
    }

    private int numbersBySeen(int comer, int what) {
        probe.become(now.comers[comer]);
        int found = 0;
        int least = ABSENT;
        for (int v = DIGITS - 1; v >= 0; v--) {
            probe.v = v;
            askNeededByGate();
            if (isAllSeenSo()) {
                found++;
                least = v;
            }
        }
        return what == 0 ? found : least;
    }

    private void askNeededByGate() {
        for (int g = 0; g < GATES; g++) {
            neededByGate[g] = now.marksNeeded(probe, g);
        }
    }

    /** Whether all that is seen of the probe's number is so of the probe. */
    private boolean isAllSeenSo() {
        Rows seen = now.seen;
        for (int i = 0; i < seen.many; i++) {
            if (seen.first[i] == probe.number) {
                int gate = seen.second[i];
                boolean isLet = now.gates[gate].knowsAlike(probe.walk, neededByGate[gate]);
                if (isLet != (seen.third[i] == 1)) {
                    return false;
                }
            }
        }
        return true;
    }

    public long odds(int comer, int gate, int part) {
        if (!isComer(comer) || !isIn(gate, GATES) || !isIn(part, 2)) {
            return NO;
        }
        Comer one = now.comers[comer];
        int needed = now.marksNeeded(one, gate);
        int let = 0;
        for (int mark = 0; mark < MARKS; mark++) {
            if (now.gates[gate].knowsAlike(one.walk ^ (1 << mark), needed)) {
                let++;
            }
        }
        return lowest(let, MARKS, part);
    }

    public long mean(int n, int part) {
        if (!isIn(n, DAYS_AHEAD + 1) || !isIn(part, 2) || now.many == 0) {
            return NO;
        }
        return lowest(aheadBy(n).passedTogether(), now.many, part);
    }

    // ---- plans, books

    public int plan(int what, int n) {
        if (what == -1) {
            return now.plan.clear();
        }
        if (!isInPlan(what, n)) {
            return NONE;
        }
        return now.plan.add(what, n, 0);
    }

    private boolean isInPlan(int what, int n) {
        switch (what) {
            case A_DAY: return true;
            case A_LESSON: return isIn(n, GATES * 10) && isComer(n % 10);
            case A_FORGETTING: return isIn(n, GATES);
            case NO_TRIES: return isComer(n);
            default: return false;
        }
    }

    public int ends(int what) {
        if (!isIn(what, 2)) {
            return NONE;
        }
        ahead.become(now);
        ahead.goByPlan();
        return what == 0 ? ahead.passedTogether() : ahead.whoIsLet();
    }

    public int book(int comer, int passed) {
        if (comer == -1) {
            return now.book.clear();
        }
        if (!isComer(comer)) {
            return NONE;
        }
        if (!isIn(passed, MOST_PASSED + 1)) {
            return BAD;
        }
        return now.book.add(comer, passed, 0);
    }

    public int looked() {
        Rows book = now.book;
        for (int i = 0; i < book.many; i++) {
            if (now.comers[book.first[i]].passed != book.second[i]) {
                return i;
            }
        }
        return ABSENT;
    }

    // ---- judging, the image, acts, tapes

    public int judge(int tape, int i) {
        if (!isIn(tape, TAPES)) {
            return NONE;
        }
        Tape row = tapes[tape];
        if (row.sort != NO_SORT && row.sort != SHORTS) {
            return CAST;
        }
        for (int p = 0; p < now.many; p++) {
            // i is looked at by itself first, for i + p may wrap.
            if (!row.hasPlace(i) || !row.hasPlace(i + p)) {
                return 100 + p;
            }
            if (row.items[i + p] != now.comers[p].walk) {
                return p;
            }
        }
        return ABSENT;
    }

    public int image() {
        kept.become(now);
        isImageTaken = true;
        return now.many;
    }

    public int undo() {
        if (!isImageTaken) {
            return STATE;
        }
        now.become(kept);
        return now.many;
    }

    public int act(int comer, int act, int x) {
        bodiesRun = 0;
        if (!isComer(comer)) {
            return 0;
        }
        Comer one = now.comers[comer];
        switch (act) {
            case WALKS_ACT: return walks(one, one.kind, x, 0);
            case KNOCKS_ACT: return knocks(one, one.kind, x, 0);
            case TELLS_ACT: return tells(one, one.kind, x, 0);
            default: return 0;
        }
    }

    private void startBody(int body) {
        if (bodiesRun < BODIES_KEPT) {
            bodies[bodiesRun] = body;
        }
        bodiesRun++;
    }

    /** The body that kind from has for walking, or the next kind above it that has one. */
    private int walks(Comer comer, int from, int x, int depth) {
        if (depth > BODIES_DEEP) {
            return 0;
        }
        switch (from) {
            case SHAM:
            case BURGLAR:
                startBody(30);
                return walks(comer, PLAIN, x * 3, depth + 1);
            case AGED:
                startBody(50);
                return -walks(comer, KIN, x, depth + 1);
            case TOLD:
                startBody(71);
                return walks(comer, DOG, x, depth + 1) ^ comer.v;
            default:
                startBody(10);
                return x + comer.number;
        }
    }

    private int knocks(Comer comer, int from, int x, int depth) {
        if (depth > BODIES_DEEP) {
            return 0;
        }
        switch (from) {
            case KIN:
                startBody(20);
                return knocks(comer, PLAIN, x, depth + 1) ^ 6;
            case AGED:
                startBody(51);
                return knocks(comer, KIN, x + 1, depth + 1);
            case TOLD:
                startBody(70);
                int knocked = knocks(comer, DOG, x, depth + 1);
                return knocked + walks(comer, DOG, 2, depth + 1);
            default:
                startBody(11);
                return walks(comer, comer.kind, x, depth + 1) - comer.v;
        }
    }

    private int tells(Comer comer, int from, int x, int depth) {
        if (depth > BODIES_DEEP) {
            return 0;
        }
        switch (from) {
            case DOG:
            case TOLD:
                startBody(40);
                int told = tells(comer, PLAIN, x, depth + 1);
                return told + knocks(comer, comer.kind, 1, depth + 1);
            case BURGLAR:
                startBody(60);
                return tells(comer, SHAM, x - comer.number, depth + 1);
            default:
                startBody(12);
                return knocks(comer, comer.kind, x, depth + 1) * 2;
        }
    }

    public int trace(int i) {
        if (!isIn(i, Math.min(bodiesRun, BODIES_KEPT))) {
            return NONE;
        }
        return bodies[i];
    }

    public int taken(int comer, int k) {
        if (!isIn(k, KINDS)) {
            return BAD;
        }
        if (!isComer(comer)) {
            return NOTHING;
        }
        int kind = now.comers[comer].kind;
        int above = kindAbove(kind);
        boolean isUnder = kind == k || above == k || kindAbove(above) == k;
        return isUnder ? kind : CAST;
    }

    private static int kindAbove(int kind) {
        switch (kind) {
            case KIN:
            case SHAM:
            case DOG: return PLAIN;
            case AGED: return KIN;
            case BURGLAR: return SHAM;
            case TOLD: return DOG;
            default: return NO_KIND;
        }
    }

    public int count(int what) {
        switch (what) {
            case 0: return now.many;
            case 1: return houseCount;
            case 2: return now.seen.many;
            case 3: return now.plan.many;
            case 4: return now.book.many;
            case 5: return reader.length;
            case 6: return bodiesRun;
            default: return BAD;
        }
    }

    public int tape(int tape, int sort, int n) {
        if (!isIn(tape, TAPES)) {
            return NONE;
        }
        if (sort == NO_SORT) {
            tapes[tape].become(NO_SORT, 0);
            return 1;
        }
        if (!isIn(sort, BOOLEANS + 1) || n > ITEMS) {
            return BAD;
        }
        if (n < 0) {
            return SIZE;
        }
        tapes[tape].become(sort, n);
        return 1;
    }

    public int item(int tape, int i, long v) {
        if (!isIn(tape, TAPES)) {
            return NONE;
        }
        if (tapes[tape].sort == NO_SORT) {
            return NOTHING;
        }
        if (!tapes[tape].hasPlace(i)) {
            return PLACE;
        }
        tapes[tape].put(i, v);
        return 1;
    }

    public long read(int tape, int i) {
        if (!isIn(tape, TAPES) || !tapes[tape].hasPlace(i)) {
            return NO;
        }
        return tapes[tape].items[i];
    }

    public int shift(int tape, int i, int other, int j, int n) {
        if (!isIn(tape, TAPES) || !isIn(other, TAPES)) {
            return NONE;
        }
        Tape from = tapes[tape];
        Tape to = tapes[other];
        if (from.sort == NO_SORT || to.sort == NO_SORT) {
            return NOTHING;
        }
        if (from.sort != to.sort) {
            return CAST;
        }
        if (!from.hasPlaces(i, n) || !to.hasPlaces(j, n)) {
            return PLACE;
        }
        System.arraycopy(from.items, i, to.items, j, n);
        return n;
    }
}
