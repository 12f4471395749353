/**
 * The edges of THE TEXT and of what is read from it (terms, part 1; promises 9 and 10): each method
 * stands for one sentence of the document, which it tells.
 */
public final class EdgesOfHousesTest {
    private static final String TEN_AGES = "age 1;age 1;age 1;age 1;age 1;age 1;age 1;age 1;age 1;age 1";

    /** The text is no HOUSE, and the FAULT lies at that place. */
    private static void fault(int place, String text) {
        GatesBent x = new GatesBent();
        Edges.dueHouse(x, -10 - place, text);
        Edges.due(x, 0, "count", 1);
        Edges.due(x, 0, "count", 5);
        Edges.due(x, 10, "told", 1);
    }

    private static void read(String text) {
        Edges.dueHouse(new GatesBent(), 0, text);
    }

    private static GatesBent held(String text) {
        GatesBent x = new GatesBent();
        Edges.dueHouse(x, 0, text);
        return x;
    }

    private static String times(int n, String text) {
        StringBuilder all = new StringBuilder();
        for (int k = 0; k < n; k++) {
            all.append(text);
        }
        return all.toString();
    }

    /** Whether E holds: a comer of that number, KIND and v, at that gate, with TRIES and DAY so. */
    private static void holds(boolean want, String e, int p, int kind, int v, int gate, int tries, int day) {
        GatesBent x = new GatesBent();
        for (int k = 0; k < p; k++) {
            x.comer(0, 0, 0, 0);
        }
        x.comer(kind, v, 0, gate);
        x.teach(gate, p);
        for (int k = 0; k < day; k++) {
            x.pass(1);
        }
        x.set(p, 2, tries);
        int without = x.like(p, gate, 0);
        Edges.dueHouse(x, 0, "help 2 " + e);
        int with = x.like(p, gate, 0);
        int more = kind == 2 || kind == 5 ? 1 : 2;
        Edges.due("how much '" + e + "' helps", with - without, want ? more : 0);
    }

    /** Of comer 1 (a COMER, v 5) at gate 2, TRIES 3, DAY 4. */
    private static void holds(boolean want, String e) {
        holds(want, e, 1, 0, 5, 2, 3, 4);
    }

    private static void theText() {
        Edges.edge(9, "A sign (0 .. 127) comes behind THE TEXT's: how many it has");
        GatesBent x = new GatesBent();
        Edges.due(x, 1, "feed", 0);
        Edges.due(x, 2, "feed", 127);
        Edges.due(x, 3, "feed", 'n');
        for (Edges.State s : Edges.STATES) {
            Edges.edge(9, "BAD: below 0, above 127, ahead of FULL");
            Edges.leaves(s, Edges.BAD, "feed", -1);
            Edges.leaves(s, Edges.BAD, "feed", 128);
            Edges.leaves(s, Edges.BAD, "feed", 'n' + 256);
            Edges.leaves(s, Edges.BAD, "feed", Edges.MAX);
            Edges.leaves(s, Edges.BAD, "feed", Edges.MIN);
        }
        Edges.edge(9, "FULL: bytes, 100 at most: the 100th is taken, the 101st is not");
        GatesBent y = new GatesBent();
        for (int k = 1; k <= 100; k++) {
            Edges.due(y, k, "feed", 'x');
        }
        Edges.due(y, Edges.FULL, "feed", 'x');
        Edges.due(y, 100, "count", 5);
        Edges.leaves(Edges.WHOLE, Edges.FULL, "feed", 0);
        Edges.leaves(Edges.WHOLE, Edges.FULL, "feed", 127);
        Edges.edge(9, "behind a HOUSE, or a FAULT, THE TEXT begins anew");
        Edges.due(y, -10, "house");
        Edges.due(y, 1, "feed", 'n');
        Edges.edge(9, "a sign that was refused as FULL isn't THE TEXT's");
        GatesBent z = new GatesBent();
        Edges.feed(z, "help 11 p=11" + times(22, "|p=1"));
        Edges.due(z, Edges.FULL, "feed", '|');
        Edges.due(z, 0, "house");
    }

    private static void aHundredBytes() {
        Edges.edge(10, "THE TEXT (bytes, 100 at most): a HOUSE of 100 is one");
        GatesBent x = held("help 11 p=11" + times(22, "|p=1"));
        x.comer(0, 0, 0, 0);
        x.comer(0, 0, 0, 0);
        x.teach(0, 0);
        Edges.due(x, 12, "like", 0, 0, 0);
        Edges.due(x, 23, "like", 1, 0, 0);
        Edges.edge(10, "a FAULT at the last of 100 bytes, and at the end of 100");
        fault(99, "help 11 p=11" + times(21, "|p=1") + "|p=x");
        fault(99, "help 11 p=11" + times(21, "|p=1") + "|p==");
        fault(100, "help 11 p=1" + times(22, "|p=1") + "|");
        fault(100, "help 1 p=11" + times(22, "|p=1") + "&");
    }

    private static void clauses() {
        Edges.edge(10, "CLAUSES, 1 to 10: none");
        fault(0, "");
        Edges.edge(10, "CLAUSES, 1 to 10: one");
        read("age 1");
        Edges.edge(10, "CLAUSES, 1 to 10: ten, and all of them are done");
        GatesBent x = held(times(8, "help 1 p<9;") + "need 8;age 7");
        x.comer(0, 0, 4095, 0);
        x.teach(0, 0);
        x.set(0, 0, 0);
        Edges.due(x, 8, "like", 0, 0, 0);
        Edges.due(x, 8, "told", 1);
        Edges.due(x, 7, "told", 2);
        Edges.due(held(TEN_AGES.substring(1 + TEN_AGES.indexOf(';')) + ";age 7"), 7, "told", 2);
        Edges.edge(10, "CLAUSES, 1 to 10: an eleventh is a FAULT at the ; ahead of it");
        read(TEN_AGES);
        fault(59, TEN_AGES + ";");
        fault(59, TEN_AGES + ";age 1");
        fault(59, TEN_AGES + ";x");
        Edges.edge(10, "with ; between: not ahead, not behind, not two, no other sign");
        fault(0, ";");
        fault(0, ";age 1");
        fault(6, "age 1;");
        fault(6, "age 1;;age 1");
        fault(5, "age 1,age 1");
        fault(5, "age 1:age 1");
        fault(5, "age 1 age 1");
        fault(5, "age 1age 1");
        fault(10, "help 1 p=1,age 1");
    }

    private static void words() {
        Edges.edge(10, "help n E; hinder n E; need n; age n: a word that ends too early");
        String[] words = {"help", "hinder", "need", "age"};
        for (String word : words) {
            for (int k = 0; k <= word.length(); k++) {
                fault(k, word.substring(0, k));
            }
            fault(word.length() + 1, word + " ");
        }
        Edges.edge(10, "help n E; hinder n E; need n; age n: another word");
        fault(0, "x");
        fault(0, "Help 1 p=1");
        fault(0, "eed 1");
        fault(1, "ha");
        fault(1, "hhelp");
        fault(2, "ned");
        fault(1, "aage 1");
        fault(2, "hep");
        fault(2, "hil");
        fault(3, "helP 1 p=1");
        fault(3, "hel 1 p=1");
        fault(3, "neet 1");
        fault(2, "agd 1");
        fault(4, "helpp 1 p=1");
        fault(6, "hinders 1 p=1");
        fault(4, "needs 1");
        fault(3, "ages 1");
        fault(3, "hinhelp");
        fault(0, "\u0000age 1");
        fault(0, "\u007fage 1");
        fault(6, "age 1;\u007f");
    }

    private static void blanks() {
        Edges.edge(10, "one blank ahead of each part behind the word: none");
        fault(4, "help1 p=1");
        fault(6, "help 1p=1");
        fault(6, "hinder1 p=1");
        fault(8, "hinder 1p=1");
        fault(4, "need1");
        fault(3, "age1");
        Edges.edge(10, "one blank ahead of each part behind the word: two");
        fault(5, "help  1 p=1");
        fault(7, "help 1  p=1");
        fault(7, "hinder  1 p=1");
        fault(9, "hinder 1  p=1");
        fault(5, "need  1");
        fault(4, "age  1");
        Edges.edge(10, "one blank ahead of each part behind the word: nowhere else");
        fault(0, " age 1");
        fault(6, "age 1; age 1");
        fault(5, "age 1 ");
        fault(6, "need 1 ");
        fault(10, "help 1 p=1 ");
        fault(8, "help 1 p =1");
        fault(9, "help 1 p= 1");
        fault(8, "help 1 ! p=1");
        fault(8, "help 1 ( p=1)");
        fault(11, "help 1 (p=1 )");
        fault(10, "help 1 p=1 &p=1");
        fault(11, "help 1 p=1& p=1");
        Edges.edge(10, "one blank ahead of each part behind the word: a blank, no other sign");
        fault(3, "age\t1");
        fault(4, "help_1 p=1");
        fault(6, "help 1\np=1");
    }

    private static void digits() {
        Edges.edge(10, "n 1 or 2 digits: none");
        fault(5, "need ");
        fault(5, "need ;age 1");
        fault(5, "need x");
        fault(5, "need -1");
        fault(5, "help p=1");
        fault(5, "help  p=1");
        fault(4, "age /");
        fault(4, "age :");
        Edges.edge(10, "n 1 or 2 digits: one, the least and the greatest");
        Edges.due(held("need 0"), 0, "told", 1);
        Edges.due(held("need 9"), 9, "told", 1);
        Edges.due(held("age 0"), 0, "told", 2);
        Edges.due(held("age 9"), 9, "told", 2);
        Edges.edge(10, "n 1 or 2 digits: two, the least and the greatest");
        Edges.due(held("need 00"), 0, "told", 1);
        Edges.due(held("need 10"), 10, "told", 1);
        Edges.due(held("need 09"), 9, "told", 1);
        Edges.due(held("need 99"), 99, "told", 1);
        Edges.due(held("age 00"), 0, "told", 2);
        Edges.due(held("age 99"), 99, "told", 2);
        Edges.edge(10, "n 1 or 2 digits: three are a FAULT at the third");
        fault(7, "need 100");
        fault(7, "need 000");
        fault(6, "age 100");
        fault(7, "help 100 p=1");
        fault(9, "hinder 100 p=1");
        Edges.edge(10, "n 1 or 2 digits: the sign behind the first is none");
        fault(6, "need 1/");
        fault(6, "need 1:");
        fault(6, "need 1x");
        Edges.edge(10, "n of help and hinder: 0 and 99");
        int[][] like = {{0, 0, 12}, {99, 0, 111}, {0, 99, -87}, {99, 99, 12}};
        for (int[] n : like) {
            GatesBent x = held("help " + n[0] + " p=0;hinder " + n[1] + " p=0");
            x.comer(0, 0, 0, 0);
            x.teach(0, 0);
            Edges.due(x, n[2], "like", 0, 0, 0);
        }
    }

    private static void numbersOfTests() {
        Edges.edge(10, "a number (1 or 2 digits): none");
        fault(9, "help 1 p=");
        fault(9, "help 1 p=;");
        fault(9, "help 1 p=)");
        fault(9, "help 1 p=/");
        fault(9, "help 1 p=:");
        fault(9, "help 1 p=-1");
        Edges.edge(10, "a number (1 or 2 digits): three are a FAULT at the third");
        fault(11, "help 1 p=100");
        fault(11, "help 1 p=000");
        fault(11, "help 1 p=12/");
        fault(11, "help 1 p=12:");
        fault(10, "help 1 p=1/");
        Edges.edge(10, "a number (1 or 2 digits): one and two, 0 .. 99");
        holds(true, "p=01");
        holds(true, "v=05");
        holds(false, "v=50");
        holds(true, "v<99");
        holds(true, "v<10");
        holds(false, "v>99");
        holds(true, "v>0");
        holds(true, "v>00");
        holds(false, "v<0");
    }

    private static void tests() {
        Edges.edge(10, "a TEST: a letter: those six, no other");
        for (int sign = 0; sign < 128; sign++) {
            boolean isLetter = "pkvgtd".indexOf(sign) >= 0;
            String e = (char) sign + "=1";
            if (isLetter) {
                read("help 1 " + e);
            } else if (sign != '(' && sign != '!') {
                fault(7, "help 1 " + e);
            } else {
                fault(8, "help 1 " + e);
            }
        }
        fault(8, "help 1 p");
        fault(8, "help 1 pp=1");
        Edges.edge(10, "a TEST: < or = or >: those three, no other");
        for (int sign = 0; sign < 128; sign++) {
            String e = "p" + (char) sign + "1";
            if (sign == '<' || sign == '=' || sign == '>') {
                read("help 1 " + e);
            } else {
                fault(8, "help 1 " + e);
            }
        }
        fault(9, "help 1 p<=1");
        fault(9, "help 1 p>=1");
        fault(9, "help 1 p<>1");
        Edges.edge(10, "< or = or >: below, at and above the number");
        for (int v = 4; v <= 6; v++) {
            holds(v < 5, "v<5", 0, 0, v, 0, 0, 0);
            holds(v == 5, "v=5", 0, 0, v, 0, 0, 0);
            holds(v > 5, "v>5", 0, 0, v, 0, 0, 0);
        }
    }

    private static void letters() {
        Edges.edge(10, "p the number of the one: 0 .. 5");
        for (int p = 0; p < 6; p++) {
            holds(true, "p=" + p, p, 0, 9, 3, 9, 9);
            holds(false, "p<" + p, p, 0, 9, 3, 9, 9);
            holds(false, "p>" + p, p, 0, 9, 3, 9, 9);
        }
        Edges.edge(10, "k its KIND: 0 .. 6");
        for (int k = 0; k < 7; k++) {
            holds(true, "k=" + k, 5, k, 9, 3, 9, 9);
            holds(false, "k<" + k, 5, k, 9, 3, 9, 9);
            holds(false, "k>" + k, 5, k, 9, 3, 9, 9);
        }
        Edges.edge(10, "v its v: 0 .. 9");
        for (int v = 0; v < 10; v++) {
            holds(true, "v=" + v, 5, 6, v, 3, 4, 3);
            holds(false, "v<" + v + "|v>" + v, 5, 6, v, 3, 4, 3);
        }
        Edges.edge(10, "g the number of the other: 0 .. 3, the GATE asked, not its own");
        for (int g = 0; g < 4; g++) {
            holds(true, "g=" + g, 5, 6, 9, g, 9, 9);
            holds(false, "g<" + g + "|g>" + g, 5, 6, 9, g, 9, 9);
        }
        GatesBent x = held("help 5 g=2");
        x.comer(0, 0, 0, 1);
        x.teach(1, 0);
        x.teach(2, 0);
        Edges.due(x, 12, "like", 0, 1, 0);
        Edges.due(x, 17, "like", 0, 2, 0);
        Edges.edge(10, "t TRIES: 0 .. 9");
        for (int t = 0; t < 10; t++) {
            holds(true, "t=" + t, 5, 6, 3, 3, t, 3);
            holds(false, "t<" + t + "|t>" + t, 5, 6, 3, 3, t, 3);
        }
        Edges.edge(10, "d DAY modulo 10: 9 on day 9, 0 on day 10");
        int[] days = {0, 1, 9, 10, 11, 19, 20, 99, 100};
        for (int day : days) {
            holds(true, "d=" + day % 10, 5, 6, 3, 3, 5, day);
            holds(false, "d<" + day % 10 + "|d>" + day % 10, 5, 6, 3, 3, 5, day);
        }
        holds(false, "d=10", 0, 0, 0, 0, 0, 10);
        holds(false, "d>9", 0, 0, 0, 0, 0, 99);
        Edges.edge(10, "d DAY modulo 10: of days that are asked beyond 9999, too");
        GatesBent y = Edges.LATE.made();
        Edges.dueHouse(y, 0, "hinder 9 d=0");
        Edges.due(y, 1, "of", 0, 10);
        Edges.due(y, 5, "on", 0, 0);
        Edges.due(y, 0, "on", 1, 0);
        Edges.due(y, 5, "on", 2, 0);
        Edges.due(y, 0, "on", 11, 0);
    }

    private static void andAndOr() {
        Edges.edge(10, "T or T|E, F or F&T: & ahead of |, on either side");
        String[] so = {"p=1", "p=0"};
        for (int bits = 0; bits < 8; bits++) {
            boolean a = (bits & 4) == 0;
            boolean b = (bits & 2) == 0;
            boolean c = (bits & 1) == 0;
            String e = so[a ? 0 : 1];
            String f = so[b ? 0 : 1];
            String g = so[c ? 0 : 1];
            holds(a || b && c, e + "|" + f + "&" + g);
            holds(a && b || c, e + "&" + f + "|" + g);
            holds((a || b) && c, "(" + e + "|" + f + ")&" + g);
            holds(a && (b || c), e + "&(" + f + "|" + g + ")");
            holds(a || b || c, e + "|" + f + "|" + g);
            holds(a && b && c, e + "&" + f + "&" + g);
            holds(!a && b || c, "!" + e + "&" + f + "|" + g);
            holds(!(a && b) || c, "!(" + e + "&" + f + ")|" + g);
            holds(!a || !b && !c, "!" + e + "|!" + f + "&!" + g);
            holds(a && b || c && !a, e + "&" + f + "|" + g + "&!" + e);
        }
        Edges.edge(10, "T|E, F&T: a part is missing");
        fault(7, "help 1 ");
        fault(7, "help 1 &p=1");
        fault(7, "help 1 |p=1");
        fault(11, "help 1 p=1&");
        fault(11, "help 1 p=1|");
        fault(11, "help 1 p=1&&p=1");
        fault(11, "help 1 p=1||p=1");
        fault(11, "help 1 p=1&|p=1");
        fault(11, "help 1 p=1|&p=1");
        fault(11, "help 1 p=1|;age 1");
        fault(15, "help 1 p=1|p=1&;age 1");
        Edges.edge(10, "T|E, F&T: a sign between is missing");
        fault(10, "help 1 p=1p=1");
        fault(10, "help 1 p=1(p=1)");
        fault(10, "help 1 p=1!p=1");
        fault(12, "help 1 (p=1)p=1");
        fault(12, "help 1 (p=1)(p=1)");
        fault(11, "help 1 p=11p=1");
    }

    private static void nested() {
        Edges.edge(10, "A ( or ! within 4 others is none: within 3 it is one");
        holds(true, "((((p=1))))");
        holds(false, "((((p=0))))");
        holds(true, "!!!!p=1");
        holds(false, "!!!p=1");
        holds(true, "(!(!p=1))");
        holds(true, "!(!(p=1))");
        holds(true, "!!((p=1))");
        holds(true, "((!!p=1))");
        holds(true, "(((p=0|(p=1))))");
        Edges.edge(10, "A ( or ! within 4 others is none: the FAULT is the fifth");
        fault(11, "help 1 (((((p=1)))))");
        fault(11, "help 1 !!!!!p=1");
        fault(11, "help 1 ((((!p=1))))");
        fault(11, "help 1 !!!!(p=1)");
        fault(11, "help 1 (!(!(p=1)))");
        fault(11, "help 1 !(!(!p=1))");
        fault(15, "help 1 ((((p=1&!p=1))))");
        fault(15, "help 1 ((((p=1|(p=1)))))");
        fault(11, "help 1 (((((");
        fault(21, "hinder 1 p=1&p=1|!!!!!p=1");
        Edges.edge(10, "A ( or ! within 4 others: one that has ended is around no other");
        holds(true, "((((p=1))))&((((p=1))))");
        holds(true, "!!!!p=1&!!!!p=1|!!!!p=1");
        holds(true, "(((p=1)&((p=1))))");
        fault(17, "help 1 (((p=1)&(((p=1)))))");
        holds(true, "!p=0&((((p=1))))");
        holds(false, "!p=1|(!(!p=0))");
        read("help 1 ((((p=1))));help 1 ((((p=1))))");
        fault(30, "help 1 ((((p=1))));help 1 (((((p=1)))))");
        Edges.edge(10, "(E): nothing in it, not closed, closed once more");
        fault(8, "help 1 ()");
        fault(8, "help 1 (");
        fault(9, "help 1 ((");
        fault(11, "help 1 (p=1");
        fault(11, "help 1 (p=1;age 1");
        fault(13, "help 1 ((p=1)");
        fault(10, "help 1 p=1)");
        fault(12, "help 1 (p=1))");
        fault(12, "help 1 (p=1|)");
        fault(7, "help 1 )");
        Edges.edge(10, "!F: nothing behind it");
        fault(8, "help 1 !");
        fault(8, "help 1 !)");
        fault(8, "help 1 !&p=1");
        fault(9, "help 1 (!)");
        fault(11, "help 1 !!!!");
        fault(11, "help 1 p=1&");
        fault(12, "help 1 p=1&!");
    }

    private static void theFault() {
        Edges.edge(10, "The FAULT: the first byte, whatever comes behind");
        fault(5, "need x;y;z");
        fault(0, "xneed 1");
        fault(5, "need x");
        fault(6, "age 1;x" + times(93, "y"));
        Edges.edge(10, "-10 less the FAULT (the one that held holds), THE TEXT is empty then (by a FAULT, too)");
        GatesBent x = held("help 3 p=0;need 4;age 5");
        x.comer(0, 0, 0, 0);
        x.teach(0, 0);
        String[] faults = {"", "x", "need 7;age 8;", "help 9 p=0;x", "hinder 7 p=0;need 1 ", TEN_AGES + ";"};
        for (String text : faults) {
            Edges.due("is a FAULT: " + text, Edges.house(x, text) <= -10 ? 1 : 0, 1);
            Edges.due(x, 0, "count", 5);
            Edges.due(x, 1, "count", 1);
            Edges.due(x, 4, "told", 1);
            Edges.due(x, 5, "told", 2);
            Edges.due(x, 15, "like", 0, 0, 0);
        }
        Edges.edge(10, "a HOUSE behind a FAULT takes the number that it didn't, and nothing of it");
        Edges.dueHouse(x, 1, "help 1 p=0");
        Edges.due(x, 10, "told", 1);
        Edges.due(x, 0, "told", 2);
        Edges.due(x, 13, "like", 0, 0, 0);
        Edges.edge(10, "THE TEXT, which is empty then: nothing of a longer one counts for a shorter one");
        GatesBent z = held("help 11 p=11|p=11");
        Edges.dueHouse(z, -13, "hel");
        Edges.dueHouse(z, -10, "");
        Edges.dueHouse(z, -15, "help ");
        Edges.dueHouse(z, -23, "help 11 p=11|");
        Edges.dueHouse(z, 1, "need 12;need 34");
        Edges.dueHouse(z, 2, "need 5");
        Edges.due(z, 5, "told", 1);
        Edges.edge(10, "a FAULT ahead of any HOUSE: there are no CLAUSES then");
        GatesBent y = new GatesBent();
        Edges.dueHouse(y, -31, "need 1;age 1;help 1 p");
        Edges.due(y, 10, "told", 1);
        Edges.due(y, 0, "told", 2);
    }

    private static void sixHouses() {
        Edges.edge(10, "The newest HOUSE holds (6 at most): its number");
        GatesBent x = new GatesBent();
        Edges.due(x, 10, "told", 1);
        Edges.due(x, 0, "told", 2);
        for (int k = 0; k < 6; k++) {
            Edges.dueHouse(x, k, "need " + (20 + k) + ";age " + (30 + k));
            Edges.due(x, k + 1, "count", 1);
            Edges.due(x, 20 + k, "told", 1);
            Edges.due(x, 30 + k, "told", 2);
            Edges.due(x, 0, "count", 5);
        }
        Edges.edge(10, "FULL: there are 6 (THE TEXT stays)");
        Edges.dueHouse(x, Edges.FULL, "need 1");
        Edges.due(x, 6, "count", 5);
        Edges.due(x, 25, "told", 1);
        Edges.due(x, 7, "feed", '7');
        Edges.due(x, Edges.FULL, "house");
        Edges.due(x, 7, "count", 5);
        Edges.edge(10, "FULL: there are 6, whether THE TEXT is empty, a HOUSE, or none");
        Edges.leaves(Edges.WHOLE, Edges.FULL, "house");
        GatesBent y = new GatesBent();
        for (int k = 0; k < 6; k++) {
            Edges.dueHouse(y, k, "age 1");
        }
        Edges.due(y, Edges.FULL, "house");
        Edges.dueHouse(y, Edges.FULL, "x");
        Edges.due(y, 1, "count", 5);
    }

    private static void needAndAge() {
        Edges.edge(10, "NEED (10 without), AGE (0 without): of no HOUSE, and of one without");
        Edges.due(new GatesBent(), 10, "told", 1);
        Edges.due(new GatesBent(), 0, "told", 2);
        Edges.due(held("help 1 p=1"), 10, "told", 1);
        Edges.due(held("help 1 p=1"), 0, "told", 2);
        Edges.due(held("age 3"), 10, "told", 1);
        Edges.due(held("need 3"), 0, "told", 2);
        GatesBent x = held("need 5;age 6");
        Edges.dueHouse(x, 1, "help 1 p=1");
        Edges.due(x, 10, "told", 1);
        Edges.due(x, 0, "told", 2);
        Edges.edge(10, "the last n of need, of age");
        Edges.due(held("need 5;need 3"), 3, "told", 1);
        Edges.due(held("need 3;need 5;age 1"), 5, "told", 1);
        Edges.due(held("need 3;help 1 p=1;need 0"), 0, "told", 1);
        Edges.due(held("age 3;age 0"), 0, "told", 2);
        Edges.due(held("age 0;need 2;age 9;help 1 p=1"), 9, "told", 2);
        Edges.due(held(times(9, "need 8;") + "need 9"), 9, "told", 1);
    }

    private static void helpAndHinder() {
        Edges.edge(10, "the n of all help whose E holds, less those of all hinder, together (may be below 0)");
        GatesBent x = held("help 50 p=0;hinder 70 p=0;help 3 p=1;hinder 4 p=1;help 2 p=0;hinder 1 p<9");
        x.comer(0, 0, 0, 0);
        x.comer(0, 0, 0, 0);
        x.comer(0, 0, 4095, 0);
        x.teach(0, 0);
        Edges.due(x, 12 + 50 - 70 + 2 - 1, "like", 0, 0, 0);
        Edges.due(x, 12 + 3 - 4 - 1, "like", 1, 0, 0);
        Edges.due(x, -1, "like", 2, 0, 0);
        Edges.edge(10, "all hinder, as many and as much as THE TEXT holds");
        GatesBent y = held(times(6, "hinder 99 p<9;") + "hinder 99 p<9");
        y.comer(0, 0, 0, 0);
        y.comer(2, 0, 4095, 0);
        y.teach(0, 0);
        Edges.due(y, 12 - 7 * 99, "like", 0, 0, 0);
        Edges.due(y, -342, "like", 1, 0, 0);
        Edges.edge(10, "all help, as many and as much as THE TEXT holds");
        GatesBent z = held(times(7, "help 99 p<9;") + "help 99 p<9");
        z.comer(0, 0, 0, 0);
        z.teach(0, 0);
        Edges.due(z, 12 + 8 * 99, "like", 0, 0, 0);
    }

    public static void main(String[] args) {
        theText();
        aHundredBytes();
        clauses();
        words();
        blanks();
        digits();
        numbersOfTests();
        tests();
        letters();
        andAndOr();
        nested();
        theFault();
        sixHouses();
        needAndAge();
        helpAndHinder();
        Edges.end("houses", 9, 10);
    }
}
