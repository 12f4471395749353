/** Each promise of the document by itself: ordinary inputs, the edges it names, wrong inputs. */
public final class PromisesTest {
    private static int wrong = 0;
    private static int promise = 0;

    private static void due(String call, long got, long want) {
        if (got != want) {
            wrong++;
            System.out.println("promise " + promise + ": " + call + " answered " + got + ", due is " + want);
        }
    }

    private static final int MIN = Integer.MIN_VALUE, MAX = Integer.MAX_VALUE;

    private static int house(GatesBent x, String text) {
        for (int i = 0; i < text.length(); i++) {
            x.feed(text.charAt(i));
        }
        return x.house();
    }

    /** One of each kind, number and kind the same up to 5; all but the last come to gate 0. */
    private static GatesBent sixKinds() {
        GatesBent x = new GatesBent();
        for (int k = 0; k < 6; k++) {
            x.comer(k, k, 0, 0);
        }
        return x;
    }

    private static void newObject() {
        promise = 1;
        GatesBent x = new GatesBent();
        for (int what = 0; what <= 6; what++) {
            due("count(" + what + ")", x.count(what), 0);
        }
        for (int what = 10; what <= 21; what++) {
            due("told(" + what + ")", x.told(what), -5);
        }
        due("told(0)", x.told(0), 0);
        due("told(1)", x.told(1), 10);
        due("told(2)", x.told(2), 0);
        due("undo()", x.undo(), -3);
        due("trace(0)", x.trace(0), -1);
        due("read(0, 0)", x.read(0, 0), GatesBent.NO);
        due("NO", GatesBent.NO, Long.MIN_VALUE);
        due("the constants", GatesBent.NONE * 1000 + GatesBent.BAD * 100 + GatesBent.STATE * 10 + GatesBent.FULL,
            -1234);
        GatesBent y = new GatesBent();
        y.comer(0, 0, 0, 0);
        y.teach(0, 0);
        due("count(0) of another object", x.count(0), 0);
        due("told(10) of another object", x.told(10), -5);
    }

    private static void comer() {
        promise = 2;
        GatesBent x = new GatesBent();
        due("comer(-1, 0, 0, 0)", x.comer(-1, 0, 0, 0), -1);
        due("comer(7, 0, 0, 0)", x.comer(7, 0, 0, 0), -1);
        due("comer(0, 0, 0, -1)", x.comer(0, 0, 0, -1), -1);
        due("comer(0, 10, 4096, 4)", x.comer(0, 10, 4096, 4), -1);
        due("comer(0, -1, 0, 0)", x.comer(0, -1, 0, 0), -2);
        due("comer(0, 10, 0, 0)", x.comer(0, 10, 0, 0), -2);
        due("comer(0, 0, -1, 0)", x.comer(0, 0, -1, 0), -2);
        due("comer(0, 0, 4096, 0)", x.comer(0, 0, 4096, 0), -2);
        due("comer(MIN, MIN, MAX, MAX)", x.comer(MIN, MIN, MAX, MAX), -1);
        due("count(0)", x.count(0), 0);
        for (int k = 0; k < 6; k++) {
            due("comer " + k, x.comer(6 - k, 9 - k, 4095 - k, k % 4), k);
        }
        due("comer(0, 0, 0, 0) as a 7th", x.comer(0, 0, 0, 0), -4);
        due("comer(0, 0, 4096, 0) as a 7th", x.comer(0, 0, 4096, 0), -2);
        due("comer(0, 0, 0, 4) as a 7th", x.comer(0, 0, 0, 4), -1);
        due("of(5, 2)", x.of(5, 2), 4090);
        // a comer that takes a number again, behind an undo, has nothing of the one before
        GatesBent y = new GatesBent();
        y.image();
        y.comer(6, 1, 1, 0);
        y.row(0, 2, 7);
        y.pass(3);
        y.undo();
        y.comer(6, 1, 1, 0);
        due("row(0, 2, 0) of a new one", y.row(0, 2, 0), 0);
        due("of(0, 4) of a new one", y.of(0, 4), 0);
    }

    private static void of() {
        promise = 3;
        GatesBent x = new GatesBent();
        due("of(0, 0)", x.of(0, 0), -1);
        x.comer(0, 7, 4095, 2);
        x.comer(2, 8, 0, 1);
        due("of(0, 20)", x.of(0, 20), -5);
        due("of(0, 10)", x.of(0, 10), 0);
        due("of(0, 6)", x.of(0, 6), 0);
        x.teach(2, 1);
        x.teach(2, 0);
        x.teach(2, 0);
        due("of(0, 0)", x.of(0, 0), 0);
        due("of(0, 1)", x.of(0, 1), 7);
        due("of(0, 2)", x.of(0, 2), 4095);
        due("of(0, 3)", x.of(0, 3), 2);
        due("of(0, 4)", x.of(0, 4), 0);
        due("of(0, 5)", x.of(0, 5), 0);
        due("of(0, 6)", x.of(0, 6), -5);
        due("of(0, 12)", x.of(0, 12), 1);
        due("of(0, 11)", x.of(0, 11), 0);
        due("of(0, 22), of two the first", x.of(0, 22), 1);
        due("of(1, 22)", x.of(1, 22), 0);
        due("of(1, 12)", x.of(1, 12), 1);
        x.pass(2);
        due("of(0, 5)", x.of(0, 5), 2);
        due("of(1, 4)", x.of(1, 4), 2);
        int[] none = {-1, 7, 9, 14, 19, 24, MIN, MAX, MIN + 12};
        for (int what : none) {
            due("of(0, " + what + ")", x.of(0, what), -1);
        }
        due("of(-1, 0)", x.of(-1, 0), -1);
        due("of(2, 0)", x.of(2, 0), -1);
        // by age 7 a mark goes on day 0, 7, 14, ..: 12, 11, 10, then 9 alike behind 15 days
        GatesBent y = new GatesBent();
        y.comer(0, 0, 0, 0);
        y.teach(0, 0);
        house(y, "age 7");
        due("of(0, 6)", y.of(0, 6), 15);
        house(y, "age 29");
        due("of(0, 6), at day 0, 29, 58", y.of(0, 6), 59);
        house(y, "age 30");
        due("of(0, 6), at day 0, 30, 60", y.of(0, 6), -5);
        house(y, "age 29;need 9");
        due("of(0, 6), fewer are needed", y.of(0, 6), -5);
        house(y, "age 59;need 11");
        due("of(0, 6), at day 0, 59: behind the last day that is looked at", y.of(0, 6), 60);
        house(y, "age 60;need 11");
        due("of(0, 6), at day 0, 60: behind one more", y.of(0, 6), -5);
    }

    private static void set() {
        promise = 4;
        GatesBent x = new GatesBent();
        due("set(0, 0, 0)", x.set(0, 0, 0), -1);
        x.comer(0, 1, 77, 2);
        due("set(0, 0, 4095)", x.set(0, 0, 4095), 77);
        due("set(0, 0, 4096)", x.set(0, 0, 4096), -2);
        due("set(0, 0, -1)", x.set(0, 0, -1), -2);
        due("set(0, 1, 3)", x.set(0, 1, 3), 2);
        due("set(0, 1, 4)", x.set(0, 1, 4), -2);
        due("set(0, 2, 9)", x.set(0, 2, 9), 0);
        due("set(0, 2, 10)", x.set(0, 2, 10), -2);
        due("set(0, 3, 0)", x.set(0, 3, 0), -1);
        due("set(0, -1, 9999)", x.set(0, -1, 9999), -1);
        due("set(1, 0, 9999)", x.set(1, 0, 9999), -1);
        due("of(0, 2)", x.of(0, 2), 4095);
        due("of(0, 3)", x.of(0, 3), 3);
        due("of(0, 4)", x.of(0, 4), 9);
        due("pass(1)", x.pass(1), 1);
        due("of(0, 4), 9 at most", x.of(0, 4), 9);
        due("set(0, 2, 0)", x.set(0, 2, 0), 9);
        due("of(0, 4)", x.of(0, 4), 0);
    }

    private static void like() {
        promise = 5;
        GatesBent x = sixKinds();
        x.set(0, 0, 63);
        x.teach(0, 0);
        x.set(0, 0, 0);
        due("like(0, 0, 0): 6 alike", x.like(0, 0, 0), 6);
        due("like(1, 0, 0): and v", x.like(1, 0, 0), 7);
        due("like(2, 0, 0): half and 4", x.like(2, 0, 0), 7);
        due("like(3, 0, 0): its gate", x.like(3, 0, 0), 6);
        due("like(4, 0, 0): and v, day 0", x.like(4, 0, 0), 10);
        due("like(5, 0, 0): half and 4 and tries", x.like(5, 0, 0), 7);
        x.set(5, 2, 3);
        due("like(5, 0, 0)", x.like(5, 0, 0), 10);
        x.set(3, 1, 1);
        due("like(3, 0, 0): not its gate", x.like(3, 0, 0), 0);
        house(x, "hinder 10 p<9");
        due("like(0, 0, 0): below 0", x.like(0, 0, 0), -4);
        due("like(2, 0, 0): half of -4", x.like(2, 0, 0), 2);
        due("like(3, 0, 0): still 0", x.like(3, 0, 0), 0);
        house(x, "hinder 11 p<9");
        due("like(2, 0, 0): half of -5 is cut to -2", x.like(2, 0, 0), 2);
        house(x, "help 7 k=2|k=5;hinder 50 k=0");
        due("like(2, 0, 0): half of 13", x.like(2, 0, 0), 10);
        due("like(0, 0, 0)", x.like(0, 0, 0), -44);
        due("like(6, 0, 0)", x.like(6, 0, 0), -10001);
        due("like(-1, 0, 0)", x.like(-1, 0, 0), -10001);
        due("like(0, 4, 0)", x.like(0, 4, 0), -10001);
        due("like(0, -1, 0)", x.like(0, -1, 0), -10001);
        due("like(0, 0, 1)", x.like(0, 0, 1), -10001);
        due("like(0, 0, -1)", x.like(0, 0, -1), -10001);
        due("like(0, 1, 0)", x.like(0, 1, 0), -10001);
        // AGED: one less every ten days, 9 at most
        GatesBent y = new GatesBent();
        y.comer(4, 9, 0, 0);
        y.teach(0, 0);
        y.pass(9);
        due("like at day 9", y.like(0, 0, 0), 21);
        y.pass(1);
        due("like at day 10", y.like(0, 0, 0), 20);
        y.pass(60);
        y.pass(29);
        due("like at day 99", y.like(0, 0, 0), 12);
        y.pass(60);
        due("like at day 159", y.like(0, 0, 0), 12);
        // TOLD: as DOG, and its ROW
        GatesBent z = new GatesBent();
        z.comer(6, 9, 0, 1);
        z.teach(0, 0);
        z.teach(1, 0);
        z.row(0, 0, 5);
        z.row(0, 1, 3);
        due("like(0, 0, 0)", z.like(0, 0, 0), 5);
        due("like(0, 1, 0)", z.like(0, 1, 0), 15);
    }

    private static void teach() {
        promise = 6;
        GatesBent x = new GatesBent();
        due("teach(0, 0)", x.teach(0, 0), -1);
        x.comer(0, 0, 0, 0);
        int[] walks = {7, 63, 1, 4095};
        int[] lost = {-5, -5, -5, 63};
        for (int k = 0; k < 4; k++) {
            x.set(0, 0, walks[k]);
            if (k < 3) {
                due("teach(1, 0)", x.teach(1, 0), lost[k]);
            }
        }
        x.set(0, 0, 0);
        due("teach(1, 0): 63 is least alike to 0", x.teach(1, 0), 63);
        due("told(13)", x.told(13), 7);
        due("told(14)", x.told(14), 1);
        due("told(15)", x.told(15), 0);
        x.set(0, 0, 6);
        due("teach(1, 0): 1 is least alike to 6", x.teach(1, 0), 1);
        x.set(0, 0, 4);
        due("teach(1, 0): of 7, 0, 6 the first least alike to 4", x.teach(1, 0), 7);
        due("told(13)", x.told(13), 0);
        due("told(14)", x.told(14), 6);
        due("told(15)", x.told(15), 4);
        due("teach(1, 0): 0 and 6 are alike as much, the first goes", x.teach(1, 0), 0);
        due("told(15): it knows one walk twice", x.told(15) * 10 + x.told(14), 44);
        due("teach(4, 0)", x.teach(4, 0), -1);
        due("teach(-1, 0)", x.teach(-1, 0), -1);
        due("teach(0, 1)", x.teach(0, 1), -1);
        due("teach(0, -1)", x.teach(0, -1), -1);
        due("told(10)", x.told(10), -5);
    }

    private static void forget() {
        promise = 7;
        GatesBent x = new GatesBent();
        x.comer(0, 0, 5, 0);
        due("forget(2)", x.forget(2), 0);
        x.teach(2, 0);
        x.teach(2, 0);
        x.teach(1, 0);
        due("forget(2)", x.forget(2), 2);
        due("forget(2)", x.forget(2), 0);
        due("told(16)", x.told(16), -5);
        due("told(13)", x.told(13), 5);
        due("teach(2, 0)", x.teach(2, 0), -5);
        due("told(16)", x.told(16), 5);
        due("told(17)", x.told(17), -5);
        due("forget(4)", x.forget(4), -1);
        due("forget(-1)", x.forget(-1), -1);
    }

    private static void row() {
        promise = 8;
        GatesBent x = new GatesBent();
        x.comer(6, 0, 0, 0);
        x.comer(3, 0, 0, 0);
        due("row(0, 3, 9)", x.row(0, 3, 9), 0);
        due("row(0, 3, 4)", x.row(0, 3, 4), 9);
        due("row(0, 2, 0)", x.row(0, 2, 0), 0);
        due("row(0, 4, 0)", x.row(0, 4, 0), -1);
        due("row(0, -1, 0)", x.row(0, -1, 0), -1);
        due("row(2, 0, 0)", x.row(2, 0, 0), -1);
        due("row(2, 0, 10)", x.row(2, 0, 10), -1);
        due("row(0, 0, 10)", x.row(0, 0, 10), -2);
        due("row(0, 0, -1)", x.row(0, 0, -1), -2);
        due("row(1, 0, 10)", x.row(1, 0, 10), -2);
        due("row(1, 0, 1)", x.row(1, 0, 1), -3);
        due("row(1, 4, 1)", x.row(1, 4, 1), -1);
        due("row(0, 3, 4)", x.row(0, 3, 4), 4);
    }

    private static void feed() {
        promise = 9;
        GatesBent x = new GatesBent();
        due("feed(128)", x.feed(128), -2);
        due("feed(-1)", x.feed(-1), -2);
        due("feed(0)", x.feed(0), 1);
        due("feed(127)", x.feed(127), 2);
        for (int k = 3; k <= 100; k++) {
            due("feed(32)", x.feed(32), k);
        }
        due("feed(32)", x.feed(32), -4);
        due("feed(200)", x.feed(200), -2);
        due("count(5)", x.count(5), 100);
        due("house()", x.house(), -10);
        due("count(5)", x.count(5), 0);
        due("feed(32)", x.feed(32), 1);
    }

    private static void faults() {
        promise = 10;
        GatesBent x = new GatesBent();
        Object[][] rows = {
            {"", 0}, {"x", 0}, {"h", 1}, {"hx", 1}, {"ha", 1}, {"hel", 3}, {"heln", 3}, {"hinde ", 5}, {"nee", 3},
            {"help", 4}, {"help 1", 6}, {"help 12", 7}, {"help 1 ", 7}, {"help  1 p=1", 5}, {"help 1  p=1", 7},
            {"help 1p", 6}, {"help p=1", 5}, {"help 123", 7}, {"help 1;", 6}, {"help 1 p", 8}, {"help 1 p1", 8},
            {"help 1 p=", 9}, {"help 1 p=a", 9}, {"help 1 p=123", 11}, {"help 1 p=1 ", 10}, {"help 1 p=1)", 10},
            {"help 1 p=1|", 11}, {"help 1 p=1&", 11}, {"help 1 p=1||p=1", 11}, {"help 1 p=1&|p=1", 11},
            {"help 1 (p=1", 11}, {"help 1 (p=1;", 11}, {"help 1 (p=1))", 12}, {"help 1 ()", 8}, {"help 1 !", 8},
            {"help 1 !)", 8}, {"help 1 !!!!!p=1", 11}, {"help 1 (!(!(p=1))))", 11}, {"help 1 (!(!!p=1))", 11},
            {"help 1 !!!!p=1&!!!!(p=1)", 19}, {"help 1 P=1", 7}, {"help 1 p==1", 9}, {"help 1 p>=1", 9},
            {"need", 4}, {"need 1x", 6}, {"need 1 ", 6}, {"need 123", 7}, {"age 1;;", 6}, {"age 1;", 6},
            {"age 1 ;age 1", 5}, {"age 1; age 1", 6}, {" age 1", 0}, {"age -1", 4}, {"age 1;bge 1", 6},
            {"age 1;age 1;age 1;age 1;age 1;age 1;age 1;age 1;age 1;age 1;", 59},
            {"age 1;age 1;age 1;age 1;age 1;age 1;age 1;age 1;age 1;age 1;age 1", 59},
        };
        for (Object[] row : rows) {
            due("house of '" + row[0] + "'", house(x, (String) row[0]), -10 - (Integer) row[1]);
        }
        due("count(1)", x.count(1), 0);
        StringBuilder whole = new StringBuilder("help 1 p=1");
        while (whole.length() < 100) {
            whole.append("&p=1");
        }
        due("house of 100 bytes and one more", house(x, whole.toString() + ")"), -110);
        whole.setLength(100);
        due("house of 100 bytes that end too early", house(x, whole.toString()), -110);
        whole.setLength(98);
        due("house of 98 bytes", house(x, whole.toString()), 0);
    }

    private static void houses() {
        promise = 10;
        GatesBent x = new GatesBent();
        x.comer(0, 7, 0, 0);
        x.comer(1, 3, 0, 3);
        x.teach(0, 0);
        x.teach(3, 0);
        x.set(0, 2, 4);
        String[] hold = {"p=0", "k=0", "v=7", "g=0", "t=4", "d=0", "p<1", "v>6", "v<8", "!p=1", "!!p=0", "p=1|p=0",
            "p=0&v=7", "p=1&v=7|g=0", "g=0|p=1&v=6", "(g=0|p=1)&v=7", "!(p=1|g=1)", "!!!!p=0", "((((p=0))))",
            "p=1|p=2|p=0", "!p=1&!p=2&!p=3", "p=00", "v=07", "!(p=1)&(v=7)", "p=1|(p=1|(p=1|(p=1|p=0)))",
            "p=0|p=0&p=1", "!p=0|!p=1"};
        String[] fail = {"p=1", "k=1", "v=6", "g=3", "t=5", "d=1", "p<0", "v>7", "v<7", "!p=0", "p=0&p=1",
            "(g=0|p=1)&v=6", "!(p=0|g=1)", "g=1|p=0&v=6", "p=1&g=0|v=6", "!p=0&p=0", "v=70", "!(p=0&v=7)"};
        for (int k = 0; k < hold.length + fail.length; k++) {
            boolean is = k < hold.length;
            String e = is ? hold[k] : fail[k - hold.length];
            GatesBent y = new GatesBent();
            y.comer(0, 7, 0, 0);
            y.teach(0, 0);
            y.set(0, 2, 4);
            due("house", house(y, "help 20 " + e), 0);
            due("like by help 20 " + e, y.like(0, 0, 0), is ? 32 : 12);
            due("house", house(y, "hinder 9 " + e + ";help 1 p<9"), 1);
            due("like by hinder 9 " + e, y.like(0, 0, 0), is ? 4 : 13);
        }
        due("house", house(x, "need 3;help 5 p=1&g=3;need 17;age 2;age 0;help 7 g=3"), 0);
        due("told(1)", x.told(1), 17);
        due("told(2)", x.told(2), 0);
        due("like(1, 3, 0): 12 and 12 and v", x.like(1, 3, 0), 27);
        due("like(0, 3, 0)", x.like(0, 3, 0), 19);
        due("a fault", house(x, "need 1;"), -17);
        due("told(1): the one that held holds", x.told(1), 17);
        due("house without need", house(x, "age 4"), 1);
        due("told(1)", x.told(1), 10);
        due("told(2)", x.told(2), 4);
        due("d is DAY modulo 10", house(x, "help 9 d=3"), 2);
        x.pass(13);
        due("like(0, 0, 0)", x.like(0, 0, 0), 21);
        due("house", house(x, "age 1;age 1;age 1;age 1;age 1;age 1;age 1;age 1;age 1;age 1"), 3);
        due("house", house(x, "need 00"), 4);
        due("house", house(x, "need 99;age 99"), 5);
        due("house as a 7th", house(x, "need 1"), -4);
        due("count(5): THE TEXT stays", x.count(5), 6);
        due("told(1)", x.told(1), 99);
        due("house as a 7th, with a fault", house(x, "x"), -4);
        due("count(1)", x.count(1), 6);
    }

    private static void told() {
        promise = 11;
        GatesBent x = new GatesBent();
        x.comer(0, 0, 0, 1);
        x.comer(0, 0, 7, 2);
        x.comer(3, 0, 4095, 3);
        x.teach(1, 0);
        x.teach(2, 0);
        x.teach(2, 1);
        due("told(3)", x.told(3), 3);
        due("told(13)", x.told(13), 0);
        due("told(16)", x.told(16), 0);
        due("told(17)", x.told(17), 7);
        due("told(18)", x.told(18), -5);
        due("told(31): 2 marks off 0, 1 off 7", x.told(31), 1);
        due("told(41)", x.told(41), 2);
        due("told(33): the dog is let by alone or two others", x.told(33), 1);
        due("told(43)", x.told(43), 2);
        x.pass(3);
        due("told(0)", x.told(0), 3);
        due("told(4)", x.told(4), 6);
        int[] none = {-1, 5, 9, 22, 29, 34, 39, 44, MIN, MAX, MIN + 10, MIN + 40};
        for (int what : none) {
            due("told(" + what + ")", x.told(what), -1);
        }
        house(x, "need 0");
        due("told(30): all, by any walk", x.told(30), 0);
        due("told(40)", x.told(40), 3);
        house(x, "need 13");
        due("told(30): nobody, by any walk", x.told(30), 0);
        due("told(40)", x.told(40), 0);
        house(x, "need 12");
        x.set(0, 0, 9);
        x.set(1, 0, 4);
        due("told(30): each by its own walk, the least", x.told(30), 4);
        due("told(33): the gate of the dog", x.told(33), 4);
        due("told(43)", x.told(43), 1);
    }

    private static void pass() {
        promise = 12;
        GatesBent x = new GatesBent();
        due("pass(61)", x.pass(61), -2);
        due("pass(-1)", x.pass(-1), -2);
        due("pass(0)", x.pass(0), 0);
        x.comer(0, 0, 0, 0);
        x.comer(5, 0, 3, 0);
        x.set(0, 0, 4095);
        x.teach(0, 0);
        x.set(0, 0, 0);
        due("pass(2)", x.pass(2), 2);
        due("of(0, 4)", x.of(0, 4), 2);
        due("of(0, 5)", x.of(0, 5), 0);
        due("pass(30)", x.pass(30), 32);
        due("of(0, 4)", x.of(0, 4), 9);
        due("the burglar's tries: half of 2, and 4, and tries to 10", x.of(1, 4), 5);
        due("the burglar's passed", x.of(1, 5), 27);
        // the MARK is its number and DAY, by the day ahead of its being 1 more
        GatesBent y = new GatesBent();
        y.comer(0, 0, 0, 0);
        y.comer(0, 0, 4095, 0);
        house(y, "age 5");
        y.pass(1);
        due("of(0, 2) behind day 0", y.of(0, 2), 1);
        due("of(1, 2) behind day 0", y.of(1, 2), 4093);
        y.pass(4);
        due("of(0, 2) behind day 4", y.of(0, 2), 1);
        y.pass(1);
        due("of(0, 2) behind day 5", y.of(0, 2), 33);
        due("of(1, 2) behind day 5", y.of(1, 2), 4093 - 64);
        y.pass(55);
        due("of(0, 2) behind day 60: mark 0 again, and 5, 10, 3, 8, 1, ..", y.of(0, 2), 4094);
        GatesBent z = new GatesBent();
        for (int k = 0; k < 166; k++) {
            z.pass(60);
        }
        due("told(0)", z.told(0), 9960);
        due("pass(40)", z.pass(40), -3);
        due("pass(61)", z.pass(61), -2);
        due("pass(39)", z.pass(39), 9999);
        due("pass(1)", z.pass(1), -3);
        due("pass(0)", z.pass(0), 9999);
    }

    private static void on() {
        promise = 13;
        GatesBent x = new GatesBent();
        due("on(0, 0)", x.on(0, 0), 0);
        due("on(0, 10)", x.on(0, 10), -1);
        x.comer(0, 0, 0, 0);
        x.comer(5, 0, 15, 0);
        x.teach(0, 0);
        house(x, "age 1");
        due("on(0, 0)", x.on(0, 0), 1);
        due("on(1, 0): the burglar has tried once", x.on(1, 0), 1);
        due("on(3, 0): 0 by 7, 15 by 14", x.on(3, 0), 2);
        due("on(60, 10): 3 days at first, 5 of each 24 by the gate's walk", x.on(60, 10), 13);
        due("on(3, 20)", x.on(3, 20), 7);
        due("on(60, 21): every mark five times", x.on(60, 21), 4080);
        due("on(61, 0)", x.on(61, 0), -2);
        due("on(-1, 0)", x.on(-1, 0), -2);
        int[] none = {-1, 1, 9, 12, 19, 22, MIN, MAX, MIN + 10, MIN + 25};
        for (int what : none) {
            due("on(0, " + what + ")", x.on(0, what), -1);
            due("on(99, " + what + ")", x.on(99, what), -1);
        }
        due("told(0)", x.told(0), 0);
        due("of(0, 2)", x.of(0, 2), 0);
        due("of(0, 5)", x.of(0, 5), 0);
        // beyond DAY 9999, too
        GatesBent y = new GatesBent();
        y.comer(0, 0, 0, 0);
        y.teach(0, 0);
        for (int k = 0; k < 166; k++) {
            y.pass(60);
        }
        y.pass(39);
        due("on(60, 10)", y.on(60, 10), 10059);
        due("mean(60, 0)", y.mean(60, 0), 10059);
        due("told(4)", y.told(4), 9999);
    }

    private static void lessons() {
        promise = 14;
        GatesBent x = new GatesBent();
        due("lessons(0, 1, -1)", x.lessons(0, 1, -1), 0);
        due("lessons(0, 1, 0)", x.lessons(0, 1, 0), -5);
        due("lessons(0, 3, 2)", x.lessons(0, 3, 2), -5);
        x.comer(0, 0, 0, 0);
        x.comer(0, 0, 4095, 1);
        x.comer(0, 0, 2047, 2);
        x.comer(0, 0, 240, 3);
        due("lessons(0, 1, -1): 4095 and 2047", x.lessons(0, 1, -1), 2);
        due("lessons(0, 1, 0)", x.lessons(0, 1, 0), 1);
        due("lessons(0, 2, -1)", x.lessons(0, 2, -1), 3);
        due("lessons(0, 2, 0)", x.lessons(0, 2, 0), 0);
        due("lessons(0, 2, 1)", x.lessons(0, 2, 1), 1);
        due("lessons(0, 2, 2)", x.lessons(0, 2, 2), -5);
        due("lessons(0, 3, -1)", x.lessons(0, 3, -1), 4);
        due("lessons(0, 3, 0)", x.lessons(0, 3, 0), 0);
        due("lessons(0, 3, 1)", x.lessons(0, 3, 1), 1);
        due("lessons(0, 3, 2)", x.lessons(0, 3, 2), 3);
        due("lessons(0, 1, 1)", x.lessons(0, 1, 1), -5);
        // what the gate knows already counts, and may be lost
        x.teach(0, 0);
        x.teach(0, 3);
        due("lessons(0, 1, -1)", x.lessons(0, 1, -1), 4);
        due("lessons(0, 1, 0)", x.lessons(0, 1, 0), 1);
        due("lessons(0, 3, -1): 4095, lost by 0, and again", x.lessons(0, 3, -1), 4);
        due("lessons(0, 3, 0)", x.lessons(0, 3, 0), 1);
        due("lessons(0, 3, 1)", x.lessons(0, 3, 1), 0);
        due("lessons(0, 3, 2)", x.lessons(0, 3, 2), 1);
        due("told(12)", x.told(12), -5);
        due("lessons(4, 1, 0)", x.lessons(4, 1, 0), -1);
        due("lessons(-1, 0, 0)", x.lessons(-1, 0, 0), -1);
        due("lessons(0, 0, 3)", x.lessons(0, 0, 3), -1);
        due("lessons(0, 0, -2)", x.lessons(0, 0, -2), -1);
        due("lessons(0, 0, 0)", x.lessons(0, 0, 0), -2);
        due("lessons(0, 4, 0)", x.lessons(0, 4, 0), -2);
    }

    private static void feign() {
        promise = 15;
        GatesBent x = new GatesBent();
        x.comer(0, 0, 0, 0);
        x.comer(3, 0, 0, 1);
        due("feign(0, 0, 0)", x.feign(0, 0, 0), -5);
        due("feign(0, 0, 1)", x.feign(0, 0, 1), -5);
        x.set(0, 0, 0b111110000000);
        x.teach(0, 0);
        x.set(0, 0, 0);
        due("feign(0, 0, 0)", x.feign(0, 0, 0), 3);
        due("feign(0, 0, 1): the least of those", x.feign(0, 0, 1), 0b1110000000);
        x.set(0, 0, 0b111100000001);
        due("feign(0, 0, 0)", x.feign(0, 0, 0), 0);
        due("feign(0, 0, 1)", x.feign(0, 0, 1), 0b111100000001);
        x.set(0, 0, 0b111100000011);
        due("feign(0, 0, 0)", x.feign(0, 0, 0), 1);
        due("feign(0, 0, 1)", x.feign(0, 0, 1), 0b111100000001);
        due("feign(1, 0, 0): not the dog's gate", x.feign(1, 0, 0), -5);
        house(x, "need 0");
        due("feign(1, 0, 0)", x.feign(1, 0, 0), 0);
        due("feign(1, 0, 1)", x.feign(1, 0, 1), 0);
        house(x, "need 13");
        due("feign(0, 0, 0)", x.feign(0, 0, 0), -5);
        house(x, "need 12");
        x.set(0, 0, 0b000001111111);
        due("feign(0, 0, 0): every mark", x.feign(0, 0, 0), 12);
        due("feign(0, 0, 1)", x.feign(0, 0, 1), 0b111110000000);
        due("feign(0, 0, 2)", x.feign(0, 0, 2), -1);
        due("feign(0, 0, -1)", x.feign(0, 0, -1), -1);
        due("feign(0, 4, 0)", x.feign(0, 4, 0), -1);
        due("feign(0, -1, 0)", x.feign(0, -1, 0), -1);
        due("feign(2, 0, 0)", x.feign(2, 0, 0), -1);
        due("feign(-1, 0, 0)", x.feign(-1, 0, 0), -1);
    }

    private static void seen() {
        promise = 16;
        GatesBent x = new GatesBent();
        due("see(0, 0, true)", x.see(0, 0, true), -1);
        due("see(-1, 9, true)", x.see(-1, 9, true), 0);
        x.comer(0, 0, 0, 0);
        x.comer(1, 0, 0, 0);
        x.teach(0, 0);
        due("see(0, 4, true)", x.see(0, 4, true), -1);
        due("see(0, -1, true)", x.see(0, -1, true), -1);
        due("see(-2, 0, true)", x.see(-2, 0, true), -1);
        for (int k = 1; k <= 5; k++) {
            due("see", x.see(k % 2, 0, k != 4), k);
        }
        due("see as a 6th", x.see(0, 0, true), -4);
        due("see(2, 0, true) as a 6th", x.see(2, 0, true), -1);
        due("count(2)", x.count(2), 5);
        promise = 17;
        due("wrong()", x.wrong(), 3);
        x.forget(0);
        due("wrong()", x.wrong(), 0);
        promise = 16;
        due("see(-1, 0, false)", x.see(-1, 0, false), 0);
        due("count(2)", x.count(2), 0);
        promise = 17;
        due("wrong()", x.wrong(), -5);
        x.see(0, 0, false);
        x.see(1, 0, false);
        due("wrong()", x.wrong(), -5);
        x.teach(0, 0);
        x.set(0, 0, 7);
        due("wrong(): as it is now", x.wrong(), 1);
        due("wrong() on a new object", new GatesBent().wrong(), -5);
    }

    private static void can() {
        promise = 18;
        GatesBent x = new GatesBent();
        due("can(0, 0, 0)", x.can(0, 0, 0), -1);
        x.comer(1, 3, 0, 0);
        x.comer(0, 0, 0, 0);
        due("can(0, 0, 0)", x.can(0, 0, 0), 4096);
        due("can(0, 0, 1)", x.can(0, 0, 1), 0);
        due("can(0, 1, 0)", x.can(0, 1, 0), 10);
        due("can(0, 1, 1)", x.can(0, 1, 1), 0);
        x.set(1, 0, 4095);
        x.teach(0, 1);
        house(x, "need 14");
        x.see(0, 0, true);
        due("can(0, 0, 0): 12 or 11 alike and 3", x.can(0, 0, 0), 13);
        due("can(0, 0, 1)", x.can(0, 0, 1), 2047);
        due("can(0, 1, 0): 0 alike", x.can(0, 1, 0), 0);
        due("can(0, 1, 1)", x.can(0, 1, 1), -5);
        due("can(1, 0, 0): nothing is seen of it", x.can(1, 0, 0), 4096);
        x.set(0, 0, 127);
        due("can(0, 1, 0): 7 alike", x.can(0, 1, 0), 3);
        due("can(0, 1, 1)", x.can(0, 1, 1), 7);
        x.see(0, 0, false);
        due("can(0, 0, 0): both", x.can(0, 0, 0), 0);
        due("can(0, 0, 1)", x.can(0, 0, 1), -5);
        x.see(-1, 0, true);
        x.see(0, 0, false);
        due("can(0, 0, 0)", x.can(0, 0, 0), 4083);
        x.see(0, 1, true);
        due("can(0, 0, 0): a gate that knows nothing", x.can(0, 0, 0), 0);
        house(x, "help 9 v=2|v=6");
        x.see(-1, 0, true);
        x.see(1, 0, true);
        x.set(1, 0, 1);
        due("can(1, 1, 0): by the house's v", x.can(1, 1, 0), 2);
        due("can(1, 1, 1)", x.can(1, 1, 1), 2);
        due("of(1, 1)", x.of(1, 1), 0);
        due("of(1, 2)", x.of(1, 2), 1);
        due("can(0, 2, 0)", x.can(0, 2, 0), -1);
        due("can(0, -1, 0)", x.can(0, -1, 0), -1);
        due("can(0, 0, 2)", x.can(0, 0, 2), -1);
        due("can(0, 0, -1)", x.can(0, 0, -1), -1);
        due("can(-1, 0, 0)", x.can(-1, 0, 0), -1);
        due("can(2, 0, 0)", x.can(2, 0, 0), -1);
    }

    private static void odds() {
        promise = 19;
        GatesBent x = new GatesBent();
        long no = Long.MIN_VALUE;
        due("odds(0, 0, 0)", x.odds(0, 0, 0), no);
        x.comer(0, 0, 0, 0);
        due("odds(0, 0, 0)", x.odds(0, 0, 0), 0);
        due("odds(0, 0, 1)", x.odds(0, 0, 1), 1);
        x.teach(0, 0);
        due("odds(0, 0, 0)", x.odds(0, 0, 0), 1);
        due("odds(0, 0, 1)", x.odds(0, 0, 1), 1);
        x.set(0, 0, 3);
        due("odds(0, 0, 0): 2 of 12", x.odds(0, 0, 0), 1);
        due("odds(0, 0, 1)", x.odds(0, 0, 1), 6);
        x.set(0, 0, 4095);
        x.teach(0, 0);
        x.set(0, 0, 0b111);
        x.teach(0, 0);
        x.set(0, 0, 0b111110);
        due("odds(0, 0, 0): 0 off 2 marks of 7", x.odds(0, 0, 0), 0);
        x.set(0, 0, 0b11111);
        due("odds(0, 0, 0): 10 alike to 7, any of its other 2", x.odds(0, 0, 0), 1);
        due("odds(0, 0, 1)", x.odds(0, 0, 1), 6);
        house(x, "need 9");
        due("odds(0, 0, 0)", x.odds(0, 0, 0), 1);
        due("odds(0, 0, 1)", x.odds(0, 0, 1), 1);
        x.set(0, 0, 0b1111000);
        due("odds(0, 0, 0): 8 alike to 0, one of 4", x.odds(0, 0, 0), 1);
        due("odds(0, 0, 1)", x.odds(0, 0, 1), 3);
        due("of(0, 2)", x.of(0, 2), 0b1111000);
        due("odds(1, 0, 0)", x.odds(1, 0, 0), no);
        due("odds(-1, 0, 0)", x.odds(-1, 0, 0), no);
        due("odds(0, 4, 0)", x.odds(0, 4, 0), no);
        due("odds(0, -1, 0)", x.odds(0, -1, 0), no);
        due("odds(0, 0, 2)", x.odds(0, 0, 2), no);
        due("odds(0, 0, -1)", x.odds(0, 0, -1), no);
    }

    private static void mean() {
        promise = 20;
        GatesBent x = new GatesBent();
        long no = Long.MIN_VALUE;
        due("mean(0, 0)", x.mean(0, 0), no);
        x.comer(0, 0, 0, 0);
        x.comer(0, 0, 4095, 0);
        x.comer(0, 0, 4095, 0);
        x.comer(0, 0, 1, 0);
        due("mean(0, 0)", x.mean(0, 0), 0);
        due("mean(0, 1)", x.mean(0, 1), 1);
        x.teach(0, 0);
        due("mean(1, 0): 2 by 4", x.mean(1, 0), 1);
        due("mean(1, 1)", x.mean(1, 1), 2);
        due("mean(60, 0)", x.mean(60, 0), 30);
        due("mean(60, 1)", x.mean(60, 1), 1);
        x.forget(0);
        x.set(3, 0, 4095);
        x.teach(0, 1);
        due("mean(5, 0): 15 by 4", x.mean(5, 0), 15);
        due("mean(5, 1)", x.mean(5, 1), 4);
        due("mean(61, 0)", x.mean(61, 0), no);
        due("mean(-1, 0)", x.mean(-1, 0), no);
        due("mean(0, 2)", x.mean(0, 2), no);
        due("mean(0, -1)", x.mean(0, -1), no);
        due("told(4)", x.told(4), 0);
    }

    private static void plan() {
        promise = 21;
        GatesBent x = new GatesBent();
        due("plan(-1, 99)", x.plan(-1, 99), 0);
        due("plan(0, MIN)", x.plan(0, MIN), 1);
        due("plan(1, 0)", x.plan(1, 0), -1);
        due("plan(3, 0)", x.plan(3, 0), -1);
        x.comer(0, 0, 0, 0);
        x.comer(0, 0, 4095, 3);
        due("plan(1, 31)", x.plan(1, 31), 2);
        due("plan(1, 32)", x.plan(1, 32), -1);
        due("plan(1, 40)", x.plan(1, 40), -1);
        due("plan(1, -1)", x.plan(1, -1), -1);
        due("plan(1, -10)", x.plan(1, -10), -1);
        due("plan(2, 4)", x.plan(2, 4), -1);
        due("plan(2, -1)", x.plan(2, -1), -1);
        due("plan(2, 3)", x.plan(2, 3), 3);
        due("plan(3, 2)", x.plan(3, 2), -1);
        due("plan(3, -1)", x.plan(3, -1), -1);
        due("plan(3, 1)", x.plan(3, 1), 4);
        due("plan(4, 0)", x.plan(4, 0), -1);
        due("plan(-2, 0)", x.plan(-2, 0), -1);
        for (int k = 5; k <= 10; k++) {
            due("plan(0, 0)", x.plan(0, 0), k);
        }
        due("plan(0, 0) as an 11th", x.plan(0, 0), -4);
        due("plan(4, 0) as an 11th", x.plan(4, 0), -1);
        due("count(3)", x.count(3), 10);
        due("plan(-1, 0)", x.plan(-1, 0), 0);
        due("count(3)", x.count(3), 0);
        promise = 22;
        x.plan(0, 0);
        x.plan(1, 0);
        x.plan(1, 31);
        x.plan(0, 0);
        x.plan(0, 0);
        due("ends(0)", x.ends(0), 4);
        due("ends(1)", x.ends(1), 3);
        x.plan(2, 0);
        due("ends(1)", x.ends(1), 2);
        due("ends(0)", x.ends(0), 4);
        due("ends(2)", x.ends(2), -1);
        due("ends(-1)", x.ends(-1), -1);
        due("told(10)", x.told(10), -5);
        due("told(4)", x.told(4), 0);
        x.plan(-1, 0);
        due("ends(1), no plan", x.ends(1), 0);
        // TRIES of a burglar, and a walk that ages within the plan
        GatesBent y = new GatesBent();
        y.comer(5, 0, 0, 0);
        y.set(0, 2, 9);
        y.comer(0, 0, 4095, 0);
        y.teach(0, 1);
        due("ends(1)", y.ends(1), 3);
        y.plan(3, 0);
        due("ends(1)", y.ends(1), 2);
        due("of(0, 4)", y.of(0, 4), 9);
        house(y, "age 1;need 12");
        y.plan(0, 0);
        y.plan(1, 11);
        y.set(1, 1, 1);
        due("ends(1): taught as it walks then", y.ends(1), 2);
        due("ends(0)", y.ends(0), 0);
    }

    private static void book() {
        promise = 23;
        GatesBent x = new GatesBent();
        due("looked()", x.looked(), -5);
        due("book(0, 0)", x.book(0, 0), -1);
        due("book(-1, 99999)", x.book(-1, 99999), 0);
        x.comer(0, 0, 0, 0);
        x.comer(0, 0, 0, 1);
        x.teach(0, 0);
        due("book(0, -1)", x.book(0, -1), -2);
        due("book(0, 10000)", x.book(0, 10000), -2);
        due("book(2, 10000)", x.book(2, 10000), -1);
        due("book(-2, 0)", x.book(-2, 0), -1);
        for (int k = 1; k <= 8; k++) {
            due("book", x.book(k % 2, k == 7 ? 9999 : k % 2 == 0 ? 2 : 0), k);
        }
        due("book(0, 0) as a 9th", x.book(0, 0), -4);
        due("book(0, 10000) as a 9th", x.book(0, 10000), -2);
        due("count(4)", x.count(4), 8);
        promise = 24;
        due("looked(): row 1 tells 2", x.looked(), 1);
        x.pass(2);
        due("looked(): row 6 tells 9999", x.looked(), 6);
        x.set(1, 1, 0);
        x.pass(1);
        due("looked(): row 0 tells 0", x.looked(), 0);
        promise = 23;
        due("book(-1, 0)", x.book(-1, 0), 0);
        promise = 24;
        due("looked()", x.looked(), -5);
        x.book(0, 3);
        x.book(1, 1);
        due("looked()", x.looked(), -5);
    }

    private static void judge() {
        promise = 25;
        GatesBent x = new GatesBent();
        due("judge(-1, 0)", x.judge(-1, 0), -1);
        due("judge(6, 0)", x.judge(6, 0), -1);
        due("judge(0, MAX): no comers", x.judge(0, MAX), -5);
        x.tape(1, 2, 4);
        due("judge(1, 0): a row of ints", x.judge(1, 0), -12);
        x.tape(0, 1, 4);
        due("judge(0, 99): no comers", x.judge(0, 99), -5);
        x.comer(0, 0, 5, 0);
        x.comer(0, 0, 4095, 0);
        due("judge(0, -1)", x.judge(0, -1), 100);
        due("judge(0, MIN)", x.judge(0, MIN), 100);
        due("judge(0, MAX)", x.judge(0, MAX), 100);
        due("judge(0, 4)", x.judge(0, 4), 100);
        due("judge(2, 0): nothing there", x.judge(2, 0), 100);
        due("judge(1, -1)", x.judge(1, -1), -12);
        due("judge(0, 0)", x.judge(0, 0), 0);
        x.item(0, 2, 5);
        due("judge(0, 2)", x.judge(0, 2), 1);
        x.item(0, 3, 4095);
        due("judge(0, 2)", x.judge(0, 2), -5);
        due("judge(0, 1)", x.judge(0, 1), 0);
        x.item(0, 3, 5);
        due("judge(0, 3): the row ends", x.judge(0, 3), 101);
        x.item(0, 2, 5 - 65536);
        x.item(0, 3, -1);
        due("judge(0, 2): -1 is no 4095", x.judge(0, 2), 1);
    }

    private static void image() {
        promise = 26;
        GatesBent x = new GatesBent();
        due("image()", x.image(), 0);
        x.comer(6, 1, 11, 1);
        x.comer(1, 2, 22, 2);
        due("image()", x.image(), 2);
        promise = 27;
        house(x, "need 5;age 1");
        due("undo()", x.undo(), 2);
        due("told(1): no house holds", x.told(1), 10);
        due("count(1): it is there", x.count(1), 1);
        house(x, "need 6;age 2");
        x.teach(1, 0);
        x.row(0, 1, 4);
        x.see(1, 2, false);
        x.plan(2, 3);
        x.book(1, 77);
        x.pass(5);
        int passed = x.of(0, 5);
        int tries = x.of(1, 4);
        int walk = x.of(0, 2);
        due("image()", x.image(), 2);
        due("image() changes nothing", x.told(0), 5);
        house(x, "need 7;age 3");
        x.teach(1, 1);
        x.forget(1);
        x.comer(0, 0, 0, 0);
        x.row(0, 1, 5);
        x.set(0, 0, 3);
        x.set(0, 1, 3);
        x.set(1, 2, 9);
        x.see(2, 0, true);
        x.plan(3, 2);
        x.book(2, 7);
        x.pass(9);
        x.feed(65);
        x.tape(0, 0, 2);
        x.act(0, 0, 0);
        for (int again = 0; again < 2; again++) {
            due("undo()", x.undo(), 2);
            due("told(0)", x.told(0), 5);
            due("told(1)", x.told(1), 6);
            due("told(2)", x.told(2), 2);
            due("told(13)", x.told(13), 11);
            due("told(14)", x.told(14), -5);
            due("of(0, 5)", x.of(0, 5), passed);
            due("of(1, 4)", x.of(1, 4), tries);
            due("of(0, 2)", x.of(0, 2), walk);
            due("of(0, 3)", x.of(0, 3), 1);
            due("of(2, 0)", x.of(2, 0), -1);
            due("row(0, 1, 0)", x.row(0, 1, 0), 4);
            due("count(2)", x.count(2), 1);
            due("count(3)", x.count(3), 1);
            due("count(4)", x.count(4), 1);
            due("looked()", x.looked(), 0);
            due("count(1): houses stay", x.count(1), 3);
            due("count(5): THE TEXT stays", x.count(5), 1);
            due("read(0, 1): tapes stay", x.read(0, 1), 0);
            due("count(6): THE TRACE stays", x.count(6), 2);
        }
        GatesBent y = new GatesBent();
        y.comer(0, 0, 0, 0);
        due("undo() without an image", y.undo(), -3);
        due("count(0)", y.count(0), 1);
    }

    private static void acts() {
        promise = 28;
        GatesBent x = new GatesBent();
        int[] kinds = {0, 1, 2, 3, 5, 6};
        for (int k = 0; k < 6; k++) {
            x.comer(kinds[k], k + 3, 0, 0);
        }
        int[][] acts = {
            // comer, act, x, answer, then the bodies
            {0, 0, 5, 5, 10}, {0, 1, 5, 2, 11, 10}, {0, 2, 5, 4, 12, 11, 10},
            {1, 0, 5, 6, 10}, {1, 1, 5, 4, 20, 11, 10}, {1, 2, 5, 8, 12, 20, 11, 10},
            {2, 0, 5, 17, 30, 10}, {2, 1, 5, 12, 11, 30, 10}, {2, 2, 5, 24, 12, 11, 30, 10},
            {3, 0, 5, 8, 10}, {3, 1, 5, 2, 11, 10}, {3, 2, 5, 2, 40, 12, 11, 10, 11, 10},
            {4, 0, 5, 19, 30, 10}, {4, 1, 5, 12, 11, 30, 10}, {4, 2, 5, 0, 60, 12, 11, 30, 10},
            {5, 0, 5, 10 ^ 8, 71, 10}, {5, 1, 5, 1, 70, 11, 71, 10, 10},
            {5, 2, 5, 15, 40, 12, 70, 11, 71, 10, 10, 70, 11, 71, 10, 10},
        };
        for (int[] a : acts) {
            String call = "act(" + a[0] + ", " + a[1] + ", " + a[2] + ")";
            promise = 28;
            due(call, x.act(a[0], a[1], a[2]), a[3]);
            promise = 29;
            for (int k = 4; k < a.length; k++) {
                due(call + ": trace(" + (k - 4) + ")", x.trace(k - 4), a[k]);
            }
            due(call + ": trace behind the last", x.trace(a.length - 4), -1);
            due("trace(-1)", x.trace(-1), -1);
            promise = 31;
            due(call + ": count(6)", x.count(6), a.length - 4);
        }
        promise = 28;
        GatesBent y = new GatesBent();
        y.comer(0, 0, 0, 0);
        y.comer(4, 2, 0, 0);
        due("act(1, 0, 4): AGED", y.act(1, 0, 4), -5);
        due("act(1, 1, 4): AGED", y.act(1, 1, 4), -2);
        int[] bodies = {51, 20, 11, 50, 10};
        for (int k = 0; k < 5; k++) {
            due("trace(" + k + ")", y.trace(k), bodies[k]);
        }
        due("act(1, 2, 4)", y.act(1, 2, 4), -4);
        due("act(1, 0, MAX): wraps", y.act(1, 0, MAX), MIN);
        due("count(6)", y.count(6), 2);
        due("act(2, 0, 4)", y.act(2, 0, 4), 0);
        due("count(6): no TRACE then", y.count(6), 0);
        due("trace(0)", y.trace(0), -1);
        y.act(1, 0, 1);
        due("act(1, 3, 4)", y.act(1, 3, 4), 0);
        due("count(6): no TRACE then", y.count(6), 0);
        y.act(1, 0, 1);
        due("act(-1, -1, 4)", y.act(-1, -1, 4), 0);
        due("trace(0)", y.trace(0), -1);
    }

    private static void taken() {
        promise = 30;
        GatesBent x = new GatesBent();
        for (int k = 1; k < 7; k++) {
            x.comer(k, 0, 0, 0);
        }
        int[] above = {-1, 0, 0, 0, 1, 2, 3};
        for (int kind = 1; kind < 7; kind++) {
            for (int k = 0; k < 7; k++) {
                boolean is = k == kind || k == 0 || above[kind] == k;
                due("taken(" + (kind - 1) + ", " + k + ")", x.taken(kind - 1, k), is ? kind : -12);
            }
        }
        GatesBent y = new GatesBent();
        due("taken(0, 7)", y.taken(0, 7), -2);
        due("taken(0, -1)", y.taken(0, -1), -2);
        due("taken(0, 0)", y.taken(0, 0), -11);
        y.comer(0, 0, 0, 0);
        due("taken(0, 0)", y.taken(0, 0), 0);
        due("taken(0, 1)", y.taken(0, 1), -12);
        due("taken(0, -1)", y.taken(0, -1), -2);
        due("taken(-1, 0)", y.taken(-1, 0), -11);
    }

    private static void count() {
        promise = 31;
        GatesBent x = new GatesBent();
        x.comer(0, 0, 0, 0);
        house(x, "need 1");
        house(x, "need 1;");
        x.feed(1);
        x.feed(1);
        x.feed(1);
        x.see(0, 0, true);
        x.see(0, 0, true);
        x.plan(0, 0);
        x.plan(0, 0);
        x.plan(0, 0);
        x.plan(0, 0);
        for (int k = 0; k < 5; k++) {
            x.book(0, 0);
        }
        x.act(0, 2, 0);
        int[] want = {1, 1, 2, 4, 5, 3, 3};
        for (int what = 0; what < 7; what++) {
            due("count(" + what + ")", x.count(what), want[what]);
        }
        due("count(7)", x.count(7), -2);
        due("count(-1)", x.count(-1), -2);
    }

    private static void tapes() {
        GatesBent x = new GatesBent();
        long no = Long.MIN_VALUE;
        promise = 32;
        due("tape(6, 0, 1)", x.tape(6, 0, 1), -1);
        due("tape(-1, 9, -1)", x.tape(-1, 9, -1), -1);
        due("tape(0, 5, -1)", x.tape(0, 5, -1), -2);
        due("tape(0, -2, 1)", x.tape(0, -2, 1), -2);
        due("tape(0, 0, 61)", x.tape(0, 0, 61), -2);
        due("tape(0, 0, -1)", x.tape(0, 0, -1), -14);
        due("tape(0, 0, MIN)", x.tape(0, 0, MIN), -14);
        due("item(0, 0, 1)", x.item(0, 0, 1), -11);
        due("tape(0, 0, 60)", x.tape(0, 0, 60), 1);
        due("item(0, 59, 1)", x.item(0, 59, 1), 1);
        due("item(0, 60, 1)", x.item(0, 60, 1), -13);
        due("item(0, 0, 1)", x.item(0, 0, 1), 1);
        due("tape(0, 0, 60)", x.tape(0, 0, 60), 1);
        due("read(0, 0): all 0 again", x.read(0, 0), 0);
        due("read(0, 59): all 0 again", x.read(0, 59), 0);
        due("tape(0, 2, 0)", x.tape(0, 2, 0), 1);
        due("read(0, 0)", x.read(0, 0), no);
        due("item(0, 0, 0)", x.item(0, 0, 0), -13);
        due("tape(0, -1, -5)", x.tape(0, -1, -5), 1);
        due("item(0, 0, 0)", x.item(0, 0, 0), -11);
        promise = 33;
        long[] vs = {0, 1, -1, 127, 128, 255, 256, 32767, 32768, 65536, 2147483648L, 4294967296L, Long.MAX_VALUE,
            Long.MIN_VALUE};
        for (int sort = 0; sort < 5; sort++) {
            x.tape(sort, sort, 3);
            for (long v : vs) {
                long want = sort == 0 ? (byte) v : sort == 1 ? (short) v : sort == 2 ? (int) v
                    : sort == 3 ? v : v != 0 ? 1 : 0;
                due("item(" + sort + ", 1, " + v + ")", x.item(sort, 1, v), 1);
                due("read(" + sort + ", 1)", x.read(sort, 1), want);
            }
            due("read(" + sort + ", 0)", x.read(sort, 0), 0);
        }
        due("item(-1, 0, 0)", x.item(-1, 0, 0), -1);
        due("item(6, 0, 0)", x.item(6, 0, 0), -1);
        due("item(5, -1, 0)", x.item(5, -1, 0), -11);
        due("item(0, -1, 0)", x.item(0, -1, 0), -13);
        due("item(0, 3, 0)", x.item(0, 3, 0), -13);
        promise = 34;
        due("read(-1, 0)", x.read(-1, 0), no);
        due("read(6, 0)", x.read(6, 0), no);
        due("read(5, 0)", x.read(5, 0), no);
        due("read(0, -1)", x.read(0, -1), no);
        due("read(0, 3)", x.read(0, 3), no);
        due("read(0, MAX)", x.read(0, MAX), no);
        due("read(0, 2)", x.read(0, 2), 0);
    }

    private static void shift() {
        promise = 35;
        GatesBent x = new GatesBent();
        x.tape(0, 2, 5);
        x.tape(1, 2, 3);
        x.tape(2, 3, 3);
        for (int k = 0; k < 5; k++) {
            x.item(0, k, k + 1);
        }
        due("shift(0, 0, 0, 1, 4)", x.shift(0, 0, 0, 1, 4), 4);
        int[] want = {1, 1, 2, 3, 4};
        for (int k = 0; k < 5; k++) {
            due("read(0, " + k + ")", x.read(0, k), want[k]);
        }
        due("shift(0, 2, 0, 0, 3)", x.shift(0, 2, 0, 0, 3), 3);
        due("read(0, 0)", x.read(0, 0), 2);
        due("read(0, 2)", x.read(0, 2), 4);
        due("shift(0, 1, 1, 0, 3)", x.shift(0, 1, 1, 0, 3), 3);
        due("read(1, 0)", x.read(1, 0), 3);
        due("read(1, 2)", x.read(1, 2), 3);
        due("shift(0, 5, 1, 3, 0): none, from either's end", x.shift(0, 5, 1, 3, 0), 0);
        due("shift(0, 6, 1, 0, 0)", x.shift(0, 6, 1, 0, 0), -13);
        due("shift(0, 0, 1, 4, 0)", x.shift(0, 0, 1, 4, 0), -13);
        due("shift(0, 0, 1, 0, 4)", x.shift(0, 0, 1, 0, 4), -13);
        due("shift(0, 3, 1, 0, 3)", x.shift(0, 3, 1, 0, 3), -13);
        due("shift(0, 0, 1, 0, -1)", x.shift(0, 0, 1, 0, -1), -13);
        due("shift(0, -1, 1, 0, 1)", x.shift(0, -1, 1, 0, 1), -13);
        due("shift(0, 0, 1, -1, 1)", x.shift(0, 0, 1, -1, 1), -13);
        due("shift(0, MAX, 1, 0, MAX)", x.shift(0, MAX, 1, 0, MAX), -13);
        due("shift(0, 1, 1, 1, MAX)", x.shift(0, 1, 1, 1, MAX), -13);
        due("shift(0, 0, 2, 0, 99)", x.shift(0, 0, 2, 0, 99), -12);
        due("shift(3, 0, 2, 0, 99)", x.shift(3, 0, 2, 0, 99), -11);
        due("shift(0, 0, 3, 0, 99)", x.shift(0, 0, 3, 0, 99), -11);
        due("shift(3, 0, 6, 0, 99)", x.shift(3, 0, 6, 0, 99), -1);
        due("shift(-1, 0, 0, 0, 0)", x.shift(-1, 0, 0, 0, 0), -1);
    }

    public static void main(String[] args) {
        newObject();
        comer();
        of();
        set();
        like();
        teach();
        forget();
        row();
        feed();
        faults();
        houses();
        told();
        pass();
        on();
        lessons();
        feign();
        seen();
        can();
        odds();
        mean();
        plan();
        book();
        judge();
        image();
        acts();
        taken();
        count();
        tapes();
        shift();
        System.out.println(wrong == 0 ? "all promises are kept" : wrong + " answers are not as due");
        if (wrong != 0) {
            System.exit(1);
        }
    }
}
