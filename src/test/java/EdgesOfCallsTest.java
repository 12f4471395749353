/**
 * The edges of each call, promise by promise: each edge tells the document's sentence. What is refused
 * is looked at in several states, and must leave all as it was.
 */
public final class EdgesOfCallsTest {
    private static final int NONE = Edges.NONE, BAD = Edges.BAD, STATE = Edges.STATE, FULL = Edges.FULL;
    private static final int ABSENT = Edges.ABSENT, MIN = Edges.MIN, MAX = Edges.MAX;
    private static final int NOTHING = Edges.NOTHING, CAST = Edges.CAST, PLACE = Edges.PLACE, SIZE = Edges.SIZE;
    private static final long NO = Edges.NO;

    /** So many COMERS, all alike. */
    private static GatesBent comers(int many) {
        GatesBent x = new GatesBent();
        for (int p = 0; p < many; p++) {
            x.comer(0, 0, 0, 0);
        }
        return x;
    }

    /** COMERS that walk so; no gate knows anything. */
    private static GatesBent walking(int... walks) {
        GatesBent x = new GatesBent();
        for (int walk : walks) {
            x.comer(0, 0, walk, 0);
        }
        return x;
    }

    private static GatesBent housed(GatesBent x, String text) {
        Edges.house(x, text);
        return x;
    }

    /** As the gate knew nothing, it knows this walk alone, and comer 0 walks as it did. */
    private static void know(GatesBent x, int gate, int walk) {
        int before = x.set(0, 0, walk);
        x.teach(gate, 0);
        x.set(0, 0, before);
    }

    private static void p01() {
        Edges.edge(1, "No COMERS, no HOUSE; four GATES that KNOW nothing");
        GatesBent x = new GatesBent();
        for (int what = 0; what < 7; what++) {
            Edges.due(x, 0, "count", what);
        }
        Edges.due(x, 0, "told", 0);
        Edges.due(x, 10, "told", 1);
        Edges.due(x, 0, "told", 2);
        Edges.due(x, 0, "told", 3);
        Edges.due(x, 0, "told", 4);
        for (int what = 10; what < 22; what++) {
            Edges.due(x, ABSENT, "told", what);
        }
        for (int g = 0; g < 4; g++) {
            Edges.due(x, 0, "forget", g);
            Edges.due(x, 0, "told", 30 + g);
            Edges.due(x, 0, "told", 40 + g);
        }
        for (int t = 0; t < 6; t++) {
            Edges.due(x, NO, "read", t, 0);
            Edges.due(x, NOTHING, "item", t, 0, 0);
        }
        Edges.due(x, NONE, "trace", 0);
        Edges.due(x, STATE, "undo");
        Edges.due(x, 0, "comer", 0, 0, 0, 0);
        Edges.edge(1, "each object by itself");
        Edges.SOME.made();
        GatesBent y = new GatesBent();
        Edges.SOME.made();
        Edges.due(y, 0, "count", 0);
        Edges.due(y, ABSENT, "told", 10);
        Edges.due(y, STATE, "undo");
        Edges.edge(1, "NO = Long.MIN_VALUE; NONE -1, BAD -2, STATE -3, FULL -4");
        Edges.due("NO", GatesBent.NO, Long.MIN_VALUE);
        Edges.due("NONE", GatesBent.NONE, -1);
        Edges.due("BAD", GatesBent.BAD, -2);
        Edges.due("STATE", GatesBent.STATE, -3);
        Edges.due("FULL", GatesBent.FULL, -4);
    }

    private static void p02() {
        for (Edges.State s : Edges.STATES) {
            Edges.edge(2, "NONE: kind: below 0, above 6, whatever the rest is");
            for (int kind : new int[] {-1, 7, MAX, MIN}) {
                Edges.leaves(s, NONE, "comer", kind, 0, 0, 0);
                Edges.leaves(s, NONE, "comer", kind, 10, 4096, 4);
            }
            Edges.edge(2, "NONE: gate: below 0, above 3, whatever v and walk are");
            for (int gate : Edges.NO_GATES) {
                Edges.leaves(s, NONE, "comer", 0, 0, 0, gate);
                Edges.leaves(s, NONE, "comer", 6, -1, -1, gate);
            }
            Edges.edge(2, "BAD: v: below 0, above 9, ahead of FULL");
            for (int v : new int[] {-1, 10, MAX, MIN}) {
                Edges.leaves(s, BAD, "comer", 0, v, 0, 0);
            }
            Edges.edge(2, "BAD: walk: below 0, above 4095, ahead of FULL");
            for (int walk : new int[] {-1, 4096, 8191, MAX, MIN}) {
                Edges.leaves(s, BAD, "comer", 0, 0, walk, 0);
            }
        }
        Edges.edge(2, "FULL: 6: the sixth comes, as number 5; the seventh doesn't");
        GatesBent x = new GatesBent();
        for (int p = 0; p < 6; p++) {
            Edges.due(x, p, "count", 0);
            Edges.due(x, p, "comer", 0, 0, 0, 0);
        }
        Edges.due(x, FULL, "comer", 0, 0, 0, 0);
        Edges.due(x, 6, "count", 0);
        Edges.leaves(Edges.WHOLE, FULL, "comer", 0, 0, 0, 0);
        Edges.leaves(Edges.WHOLE, FULL, "comer", 6, 9, 4095, 3);
        Edges.edge(2, "A COMER: kind 0 .. 6, v 0 .. 9, walk 0 .. 4095, gate 0 .. 3: the least, the greatest");
        GatesBent y = new GatesBent();
        int[][] with = {{0, 9, 0, 3}, {6, 0, 4095, 0}, {0, 0, 2048, 1}, {6, 9, 1, 3}, {3, 5, 4094, 2}};
        for (int p = 0; p < with.length; p++) {
            Edges.due(y, p, "comer", with[p][0], with[p][1], with[p][2], with[p][3]);
        }
        for (int p = 0; p < with.length; p++) {
            for (int what = 0; what < 4; what++) {
                Edges.due(y, with[p][what], "of", p, what);
            }
        }
        Edges.edge(2, "TRIES, PASSED, ROW: 0 at first, also of one that comes later");
        y.pass(3);
        Edges.due(y, 5, "comer", 6, 0, 0, 0);
        Edges.due(y, 0, "of", 5, 4);
        Edges.due(y, 0, "of", 5, 5);
        for (int part = 0; part < 4; part++) {
            Edges.due(y, 0, "row", 5, part, 1);
        }
        Edges.edge(2, "a COMER that comes behind an undo has nothing of the one that had its number");
        GatesBent z = new GatesBent();
        z.image();
        z.comer(6, 0, 9, 0);
        z.row(0, 3, 9);
        z.pass(5);
        z.undo();
        Edges.due(z, 0, "comer", 6, 0, 0, 0);
        Edges.due(z, 0, "of", 0, 2);
        Edges.due(z, 0, "of", 0, 4);
        Edges.due(z, 0, "row", 0, 3, 0);
    }

    private static void p03() {
        for (Edges.State s : Edges.STATES) {
            Edges.edge(3, "NONE: no such COMER: below 0, as many as there are");
            for (int p : s.noComers()) {
                for (int what : new int[] {0, 5, 6, 10, 23, 99}) {
                    Edges.leaves(s, NONE, "of", p, what);
                }
            }
        }
        Edges.edge(3, "NONE: no such what: between and beyond 0 .. 6, 10 .. 13, 20 .. 23");
        int[] none = {-1, 7, 8, 9, 14, 15, 19, 24, 30, MAX, MIN, MIN + 10, MIN + 23, -10};
        for (int what : none) {
            Edges.leaves(Edges.SOME, NONE, "of", 0, what);
            Edges.leaves(Edges.WHOLE, NONE, "of", 5, what);
        }
        Edges.edge(3, "what 10 and g, 20 and g: g 0 and 3");
        GatesBent x = comers(1);
        x.teach(0, 0);
        x.teach(3, 0);
        for (int g = 0; g < 4; g++) {
            Edges.due(x, g % 3 == 0 ? 1 : 0, "of", 0, 10 + g);
            Edges.due(x, g % 3 == 0 ? 0 : ABSENT, "of", 0, 20 + g);
        }
        outOf();
        nearest();
    }

    private static void outOf() {
        Edges.edge(3, "OUT: the fewest DAYS (0 .. 60): 0, if it isn't LET BY now");
        Edges.due(comers(1), 0, "of", 0, 6);
        Edges.edge(3, "OUT: -5: not by then");
        GatesBent x = comers(1);
        x.teach(0, 0);
        Edges.due(x, ABSENT, "of", 0, 6);
        Edges.edge(3, "OUT: behind 1, behind 59, 60, and not by 60");
        // the third day of a multiple makes 9 marks alike: days 0, age, 2 * age
        Edges.due(housed(x, "age 1;need 12"), 1, "of", 0, 6);
        Edges.due(housed(x, "age 29"), 59, "of", 0, 6);
        Edges.due(housed(x, "age 59;need 11"), 60, "of", 0, 6);
        Edges.due(housed(x, "age 60;need 11"), ABSENT, "of", 0, 6);
        Edges.edge(3, "OUT: its GATE, not another; of one, not of others");
        GatesBent y = walking(0, 4095);
        y.teach(0, 0);
        y.set(1, 1, 1);
        y.teach(1, 0);
        Edges.due(y, ABSENT, "of", 0, 6);
        Edges.due(y, 0, "of", 1, 6);
        Edges.edge(3, "OUT: an AGED one, by its DAYS: 12 and 9 less DAY by 10");
        GatesBent z = new GatesBent();
        z.comer(4, 9, 0, 0);
        z.teach(0, 0);
        Edges.due(housed(z, "need 16"), 60, "of", 0, 6);
        Edges.due(housed(z, "need 15"), ABSENT, "of", 0, 6);
        Edges.due(housed(z, "need 17"), 50, "of", 0, 6);
        z.pass(1);
        Edges.due(housed(z, "need 16"), 59, "of", 0, 6);
    }

    private static void nearest() {
        Edges.edge(3, "NEAREST: -5: it KNOWS none");
        GatesBent x = walking(0);
        Edges.due(x, ABSENT, "of", 0, 20);
        Edges.edge(3, "NEAREST: the place of the WALK there (0 .. 2) to which it is LIKE most");
        int[][] walks = {{1, 7, 3}, {7, 1, 3}, {7, 3, 1}};
        for (int place = 0; place < 3; place++) {
            GatesBent y = walking(0);
            for (int walk : walks[place]) {
                know(y, 1, walk);
            }
            Edges.due(y, place, "of", 0, 21);
        }
        Edges.edge(3, "NEAREST: of several the first");
        int[][] same = {{1, 2, 4}, {7, 1, 2}, {1, 7, 2}, {2, 1, 7}};
        int[] first = {0, 1, 0, 0};
        for (int k = 0; k < 4; k++) {
            GatesBent y = walking(0);
            for (int walk : same[k]) {
                know(y, 1, walk);
            }
            Edges.due(y, first[k], "of", 0, 21);
        }
        Edges.edge(3, "NEAREST: LIKE may be below 0");
        GatesBent y = walking(0);
        know(y, 0, 4095);
        know(y, 0, 2047);
        housed(y, "hinder 50 p=0");
        Edges.due(y, 1, "of", 0, 20);
        Edges.due(y, -50, "like", 0, 0, 0);
        Edges.due(y, -49, "like", 0, 0, 1);
        Edges.edge(3, "NEAREST: of several LIKE the same, though the marks differ: a DOG's 0, a SHAM's half");
        GatesBent z = new GatesBent();
        z.comer(3, 0, 0, 3);
        z.comer(2, 0, 0, 3);
        know(z, 0, 3);
        know(z, 0, 0);
        Edges.due(z, 0, "of", 0, 20);
        Edges.due(z, 1, "of", 1, 20);
        z.forget(0);
        know(z, 0, 7);
        know(z, 0, 15);
        Edges.due(z, 0, "of", 1, 20);
        z.forget(0);
        know(z, 0, 15);
        know(z, 0, 7);
        Edges.due(z, 0, "of", 1, 20);
    }

    private static void p04() {
        for (Edges.State s : Edges.STATES) {
            Edges.edge(4, "NONE: comer, whatever the rest is");
            for (int p : s.noComers()) {
                Edges.leaves(s, NONE, "set", p, 0, 0);
                Edges.leaves(s, NONE, "set", p, 2, 99);
                Edges.leaves(s, NONE, "set", p, 9, 9999);
            }
        }
        for (Edges.State s : new Edges.State[] {Edges.SOME, Edges.WHOLE}) {
            Edges.edge(4, "NONE: what: below 0, above 2, whatever n is");
            for (int what : new int[] {-1, 3, 4, 5, MAX, MIN}) {
                Edges.leaves(s, NONE, "set", 0, what, 0);
                Edges.leaves(s, NONE, "set", 0, what, -1);
            }
            Edges.edge(4, "BAD: WALK (0 .. 4095), its GATE (0 .. 3), TRIES (0 .. 9)");
            for (int n : new int[] {-1, 4096, MAX, MIN}) {
                Edges.leaves(s, BAD, "set", 1, 0, n);
            }
            for (int n : new int[] {-1, 4, 9, MAX, MIN}) {
                Edges.leaves(s, BAD, "set", 1, 1, n);
            }
            for (int n : new int[] {-1, 10, 4095, MAX, MIN}) {
                Edges.leaves(s, BAD, "set", 1, 2, n);
            }
        }
        Edges.edge(4, "becomes n: what it was: the least and the greatest");
        GatesBent x = walking(7, 9);
        int[] most = {4095, 3, 9};
        int[] before = {9, 0, 0};
        for (int what = 0; what < 3; what++) {
            Edges.due(x, before[what], "set", 1, what, most[what]);
            Edges.due(x, most[what], "of", 1, what + 2);
            Edges.due(x, most[what], "set", 1, what, most[what]);
            Edges.due(x, most[what], "set", 1, what, 0);
            Edges.due(x, 0, "of", 1, what + 2);
            Edges.due(x, 0, "set", 1, what, 1);
        }
        Edges.due(x, 7, "of", 0, 2);
        Edges.due(x, 0, "of", 0, 3);
        Edges.due(x, 0, "of", 0, 4);
    }

    private static void p05() {
        for (Edges.State s : Edges.STATES) {
            Edges.edge(5, "-10001: NONE: comer, gate");
            for (int p : s.noComers()) {
                Edges.leaves(s, Edges.NO_LIKE, "like", p, 0, 0);
            }
            for (int g : Edges.NO_GATES) {
                Edges.leaves(s, Edges.NO_LIKE, "like", 0, g, 0);
            }
            Edges.edge(5, "-10001: place k (0 .. 2)");
            for (int k : new int[] {-1, 3, MAX, MIN}) {
                Edges.leaves(s, Edges.NO_LIKE, "like", 0, 0, k);
            }
        }
        Edges.edge(5, "-10001: there is no such WALK: none, one, two, three are there");
        GatesBent x = walking(0);
        for (int known = 0; known <= 3; known++) {
            for (int k = 0; k < 3; k++) {
                Edges.due(x, k < known ? 12 : Edges.NO_LIKE, "like", 0, 2, k);
                Edges.due(x, Edges.NO_LIKE, "like", 0, 1, k);
            }
            x.teach(2, 0);
        }
        Edges.due(x, Edges.NO_LIKE, "like", 0, 2, 3);
        x.forget(2);
        Edges.due(x, Edges.NO_LIKE, "like", 0, 2, 0);
        Edges.edge(5, "how much, also where it is -1, -2 or -5");
        GatesBent y = walking(4095);
        know(y, 0, 0);
        for (int n = 1; n <= 5; n++) {
            Edges.due(housed(y, "hinder " + n + " p=0"), -n, "like", 0, 0, 0);
        }
    }

    private static void p06() {
        for (Edges.State s : Edges.STATES) {
            Edges.edge(6, "NONE: gate, comer");
            for (int g : Edges.NO_GATES) {
                Edges.leaves(s, NONE, "teach", g, 0);
            }
            for (int p : s.noComers()) {
                Edges.leaves(s, NONE, "teach", 0, p);
            }
        }
        Edges.edge(6, "the WALK it KNOWS no more (-5: none): the third drives out none, the fourth one");
        GatesBent x = walking(5);
        for (int k = 0; k < 3; k++) {
            Edges.due(x, ABSENT, "teach", 3, 0);
        }
        Edges.due(x, 5, "teach", 3, 0);
        x.forget(3);
        Edges.due(x, ABSENT, "teach", 3, 0);
        Edges.edge(6, "the WALK it KNOWS no more, also the WALK 0, and 4095");
        GatesBent y = walking(0);
        y.teach(0, 0);
        y.teach(0, 0);
        y.set(0, 0, 4095);
        y.teach(0, 0);
        Edges.due(y, 0, "teach", 0, 0);
        Edges.due(y, 0, "teach", 0, 0);
        Edges.due(y, 4095, "teach", 0, 0);
        Edges.edge(6, "A GATE alone is TAUGHT, by a COMER that comes to another, too");
        Edges.due(y, ABSENT, "teach", 3, 0);
        Edges.due(y, ABSENT, "told", 13);
        Edges.due(y, 4095, "told", 19);
    }

    private static void p07() {
        Edges.edge(7, "NONE: gate");
        for (Edges.State s : Edges.STATES) {
            for (int g : Edges.NO_GATES) {
                Edges.leaves(s, NONE, "forget", g);
            }
        }
        Edges.edge(7, "how many WALKS it KNEW: 0, 1, 2, 3, also behind a fourth");
        GatesBent x = walking(0);
        for (int many = 0; many < 5; many++) {
            for (int k = 0; k < many; k++) {
                x.teach(0, 0);
                x.teach(3, 0);
            }
            Edges.due(x, Math.min(many, 3), "forget", 0);
            Edges.due(x, 0, "forget", 0);
            Edges.due(x, ABSENT, "told", 10);
            Edges.due(x, Math.min(many, 3), "forget", 3);
        }
    }

    private static void p08() {
        for (Edges.State s : Edges.STATES) {
            Edges.edge(8, "NONE: comer, whatever the rest is");
            for (int p : s.noComers()) {
                Edges.leaves(s, NONE, "row", p, 0, 0);
                Edges.leaves(s, NONE, "row", p, 4, 10);
            }
        }
        Edges.edge(8, "NONE: part: below 0, above 3; ahead of BAD and of STATE");
        for (int part : Edges.NO_GATES) {
            Edges.leaves(Edges.SOME, NONE, "row", 0, part, 1);
            Edges.leaves(Edges.SOME, NONE, "row", 0, part, 10);
            Edges.leaves(Edges.SOME, NONE, "row", 1, part, 10);
        }
        Edges.edge(8, "BAD: n below 0, above 9; ahead of STATE");
        for (int n : new int[] {-1, 10, MAX, MIN}) {
            Edges.leaves(Edges.SOME, BAD, "row", 0, 0, n);
            Edges.leaves(Edges.SOME, BAD, "row", 1, 0, n);
            Edges.leaves(Edges.WHOLE, BAD, "row", 5, 3, n);
        }
        Edges.edge(8, "STATE: another KIND: each but TOLD");
        for (int p = 0; p < 5; p++) {
            Edges.leaves(Edges.WHOLE, STATE, "row", p, 0, 0);
            Edges.leaves(Edges.WHOLE, STATE, "row", p, 3, 9);
        }
        Edges.leaves(Edges.SOME, STATE, "row", 1, 0, 0);
        Edges.edge(8, "becomes n (0 .. 9) for part 0 and 3: what it was");
        GatesBent x = new GatesBent();
        x.comer(6, 0, 0, 0);
        x.comer(6, 0, 0, 0);
        for (int part = 0; part < 4; part++) {
            Edges.due(x, 0, "row", 1, part, 9);
        }
        for (int part = 0; part < 4; part++) {
            Edges.due(x, 9, "row", 1, part, 0);
            Edges.due(x, 0, "row", 1, part, part);
            Edges.due(x, 0, "row", 0, part, 0);
        }
        for (int part = 0; part < 4; part++) {
            Edges.due(x, part, "row", 1, part, 0);
        }
    }

    /** More of these: EdgesOfHousesTest. */
    private static void p09and10() {
        Edges.edge(9, "FULL");
        Edges.leaves(Edges.WHOLE, FULL, "feed", 32);
        Edges.edge(9, "BAD");
        Edges.leaves(Edges.WHOLE, BAD, "feed", 128);
        Edges.edge(10, "FULL: there are 6 (THE TEXT stays)");
        Edges.leaves(Edges.WHOLE, FULL, "house");
        Edges.edge(10, "by a FAULT all but THE TEXT is as it was");
        GatesBent x = Edges.SOME.made();
        Edges.due(x, 8, "told", 1);
        x.feed(';');
        Edges.due(x, -17, "house");
        Edges.due(x, 8, "told", 1);
        Edges.due(x, 3, "told", 2);
        Edges.due(x, 2, "count", 1);
    }

    private static void p11() {
        Edges.edge(11, "NONE: between and beyond 0 .. 4, 10 .. 21, 30 .. 33, 40 .. 43");
        int[] none = {-1, 5, 6, 9, 22, 23, 29, 34, 35, 39, 44, 50, MAX, MIN, MIN + 10, MIN + 30, MIN + 43};
        for (Edges.State s : Edges.STATES) {
            for (int what : none) {
                Edges.leaves(s, NONE, "told", what);
            }
        }
        Edges.edge(11, "10 and (3 times g) and k: the WALK at place k of GATE g (-5: none): each");
        GatesBent x = walking(0);
        for (int g = 0; g < 4; g++) {
            for (int k = 0; k < g; k++) {
                x.set(0, 0, 10 * g + k);
                x.teach(g, 0);
            }
        }
        for (int g = 0; g < 4; g++) {
            for (int k = 0; k < 3; k++) {
                Edges.due(x, k < g ? 10 * g + k : ABSENT, "told", 10 + 3 * g + k);
            }
        }
        Edges.edge(11, "3: who is LET BY at its GATE (bits): none, the first, the last, all six");
        GatesBent y = walking(0, 4095, 4095, 4095, 4095, 0);
        Edges.due(y, 0, "told", 3);
        y.teach(0, 0);
        Edges.due(y, 33, "told", 3);
        y.set(0, 1, 1);
        Edges.due(y, 32, "told", 3);
        y.teach(0, 1);
        y.teach(1, 0);
        Edges.due(y, 63, "told", 3);
        Edges.edge(11, "4: PASSED of all, together: nobody, nothing, of all six");
        Edges.due(new GatesBent(), 0, "told", 4);
        Edges.due(y, 0, "told", 4);
        y.pass(60);
        Edges.due(y, 360, "told", 4);
        Edges.edge(11, "0: DAY 0, 60");
        Edges.due(y, 60, "told", 0);
        master();
    }

    private static void master() {
        Edges.edge(11, "MASTER: of nobody the least WALK, 0; how many: 0");
        Edges.due(new GatesBent(), 0, "told", 30);
        Edges.due(new GatesBent(), 0, "told", 40);
        Edges.edge(11, "MASTER: of several the least as bits: 0, if all are LET BY by any, or nobody by any");
        GatesBent x = walking(4095, 4095);
        housed(x, "need 0");
        Edges.due(x, 0, "told", 33);
        Edges.due(x, 2, "told", 43);
        housed(x, "need 13");
        Edges.due(x, 0, "told", 33);
        Edges.due(x, 0, "told", 43);
        Edges.edge(11, "MASTER: the greatest WALK, 4095, and the least, 0");
        housed(x, "need 12");
        Edges.due(x, 4095, "told", 30);
        Edges.due(x, 2, "told", 40);
        x.set(0, 0, 0);
        Edges.due(x, 0, "told", 30);
        Edges.due(x, 1, "told", 40);
        x.set(1, 0, 0);
        Edges.due(x, 0, "told", 30);
        Edges.due(x, 2, "told", 40);
        Edges.edge(11, "MASTER: one that nobody walks, of several the least");
        GatesBent y = walking(0, 0b1111);
        Edges.due(y, 0b11, "told", 30);
        Edges.due(y, 2, "told", 40);
        y.set(1, 0, 0b11111);
        Edges.due(y, 0, "told", 30);
        Edges.due(y, 1, "told", 40);
        Edges.edge(11, "MASTER: did it KNOW that alone: what it KNOWS doesn't count, nor who comes to it");
        GatesBent z = walking(0, 4095, 4095);
        z.set(1, 1, 1);
        z.set(2, 1, 1);
        z.teach(0, 0);
        Edges.due(z, 0b1111111111, "told", 30);
        Edges.due(z, 2, "told", 40);
        Edges.edge(11, "MASTER of six: how many: 6");
        GatesBent six = walking(1, 2, 4, 8, 16, 32);
        Edges.due(six, 0, "told", 31);
        Edges.due(six, 6, "told", 41);
        Edges.due(housed(six, "need 12"), 1, "told", 31);
        Edges.due(six, 1, "told", 41);
        Edges.edge(11, "MASTER of a GATE: by the houses' g, of each GATE by itself");
        housed(six, "need 12;help 12 g=3");
        Edges.due(six, 1, "told", 42);
        Edges.due(six, 6, "told", 43);
        Edges.due(six, 0, "told", 33);
    }

    private static void p12() {
        Edges.edge(12, "BAD: n DAYS (0 .. 60): below 0, above 60, ahead of STATE");
        for (Edges.State s : new Edges.State[] {Edges.EMPTY, Edges.SOME, Edges.WHOLE, Edges.LATE}) {
            for (int n : new int[] {-1, 61, MAX, MIN, -60}) {
                Edges.leaves(s, BAD, "pass", n);
            }
        }
        Edges.edge(12, "n DAYS (0 .. 60) go: DAY: 0 of them change nothing");
        Edges.leaves(Edges.EMPTY, 0, "pass", 0);
        Edges.leaves(Edges.SOME, 7, "pass", 0);
        Edges.leaves(Edges.LATE, 9999, "pass", 0);
        Edges.edge(12, "n DAYS (0 .. 60) go: DAY: 1 and 60");
        GatesBent x = new GatesBent();
        Edges.due(x, 1, "pass", 1);
        Edges.due(x, 61, "pass", 60);
        Edges.due(x, 61, "told", 0);
        Edges.edge(12, "STATE: it would be above 9999");
        for (int n : new int[] {1, 2, 60}) {
            Edges.leaves(Edges.LATE, STATE, "pass", n);
        }
        Edges.edge(12, "DAY 9999 is reached by 60, not by 61; what would be above goes not in part");
        GatesBent y = walking(0);
        for (int k = 0; k < 165; k++) {
            y.pass(60);
        }
        Edges.due(y, 9939, "pass", 39);
        Edges.due(y, BAD, "pass", 61);
        Edges.due(y, 9940, "pass", 1);
        Edges.due(y, STATE, "pass", 60);
        Edges.due(y, 9940, "told", 0);
        Edges.due(y, 9999, "pass", 59);
        Edges.due(y, STATE, "pass", 1);
        Edges.due(y, 9999, "told", 0);
        GatesBent z = walking(0);
        for (int k = 0; k < 165; k++) {
            z.pass(60);
        }
        z.pass(39);
        Edges.due(z, 9999, "pass", 60);
    }

    private static void p13() {
        for (Edges.State s : Edges.STATES) {
            Edges.edge(13, "BAD: n (0 .. 60)");
            for (int n : new int[] {-1, 61, MAX, MIN}) {
                Edges.leaves(s, BAD, "on", n, 0);
            }
            Edges.edge(13, "NONE: what: between and beyond 0, 10 and p, 20 and p; ahead of BAD");
            for (int what : new int[] {-1, 1, 5, 9, 16, 17, 19, 26, 30, MAX, MIN, MIN + 10, MIN + 20}) {
                Edges.leaves(s, NONE, "on", 0, what);
                Edges.leaves(s, NONE, "on", 61, what);
            }
            Edges.edge(13, "NONE: of no such COMER; ahead of BAD");
            for (int p : s.noComers()) {
                if (p >= 0 && p < 10) {
                    Edges.leaves(s, NONE, "on", 1, 10 + p);
                    Edges.leaves(s, NONE, "on", 61, 10 + p);
                    Edges.leaves(s, NONE, "on", 1, 20 + p);
                }
            }
        }
        Edges.leaves(Edges.SOME, BAD, "on", 61, 13);
        Edges.leaves(Edges.SOME, BAD, "on", -1, 23);
        Edges.edge(13, "ON n DAYS: 0: as all is now");
        GatesBent x = walking(0, 7, 0, 0, 0, 5);
        x.teach(0, 0);
        x.pass(3);
        Edges.due(x, 3, "on", 0, 10);
        Edges.due(x, 3, "on", 0, 15);
        Edges.due(x, 0, "on", 0, 11);
        Edges.due(x, 7, "on", 0, 21);
        Edges.due(x, 5, "on", 0, 25);
        Edges.due(x, 61, "on", 0, 0);
        Edges.edge(13, "ON n DAYS: 1 and 60");
        Edges.due(x, 4, "on", 1, 10);
        Edges.due(x, 63, "on", 60, 15);
        Edges.due(x, 0, "on", 60, 11);
        Edges.due(x, 5, "on", 60, 25);
        Edges.due(x, 61, "on", 60, 0);
        Edges.edge(13, "who is LET BY at its GATE then: behind the last of them, by DAY then");
        housed(x, "help 9 d=3;need 19");
        Edges.due(x, 61, "on", 0, 0);
        Edges.due(x, 0, "on", 1, 0);
        Edges.due(x, 61, "on", 60, 0);
        Edges.due(x, 0, "on", 59, 0);
        Edges.due(x, 4, "on", 1, 10);
        Edges.due(x, 4, "on", 10, 10);
        Edges.due(x, 5, "on", 11, 10);
        Edges.edge(13, "TRIES in what is asked: 9 at most, too");
        GatesBent y = new GatesBent();
        y.comer(5, 0, 4095, 0);
        y.set(0, 0, 0);
        y.teach(0, 0);
        y.set(0, 0, 4095);
        Edges.due(housed(y, "need 13"), 1, "on", 9, 0);
        Edges.due(y, 0, "on", 8, 0);
        Edges.due(housed(y, "need 14"), 0, "on", 60, 0);
    }

    private static void p14() {
        for (Edges.State s : Edges.STATES) {
            Edges.edge(14, "NONE: gate, ahead of BAD");
            for (int g : Edges.NO_GATES) {
                Edges.leaves(s, NONE, "lessons", g, 1, 0);
                Edges.leaves(s, NONE, "lessons", g, 0, -1);
            }
            Edges.edge(14, "NONE: k (-1 .. 2), ahead of BAD");
            for (int k : new int[] {-2, 3, MAX, MIN}) {
                Edges.leaves(s, NONE, "lessons", 0, 1, k);
                Edges.leaves(s, NONE, "lessons", 0, 4, k);
            }
            Edges.edge(14, "BAD: n (1 .. 3)");
            for (int n : new int[] {0, 4, -1, MAX, MIN}) {
                Edges.leaves(s, BAD, "lessons", 0, n, -1);
                Edges.leaves(s, BAD, "lessons", 3, n, 2);
            }
        }
        Edges.edge(14, "LESSONS: nobody is there: -5; how many: 0");
        for (int n = 1; n <= 3; n++) {
            Edges.leaves(Edges.EMPTY, 0, "lessons", 3, n, -1);
            for (int k = 0; k < 3; k++) {
                Edges.leaves(Edges.EMPTY, ABSENT, "lessons", 3, n, k);
            }
        }
        Edges.edge(14, "LESSONS: k is beyond the row: -5");
        GatesBent x = walking(0, 4095);
        for (int n = 1; n <= 3; n++) {
            for (int k = 0; k < 3; k++) {
                Edges.due("k is in the row", x.lessons(0, n, k) >= 0 ? 1 : 0, k < n ? 1 : 0);
                Edges.due("k is beyond it", x.lessons(0, n, k) == ABSENT ? 1 : 0, k < n ? 0 : 1);
            }
        }
        rowsOfLessons();
        lessonsThatLose();
    }

    private static void rowsOfLessons() {
        Edges.edge(14, "LESSONS of n 1: of one COMER, of six; the last is best, the first of several");
        dueLessons(walking(9), 1, 1, 0);
        dueLessons(walking(0b11, 0b1100, 0b110000, 0b11000000, 0b1100000000, 0), 1, 6, 5);
        dueLessons(walking(0, 0, 0, 0, 0, 0), 1, 6, 0);
        dueLessons(walking(4095, 0, 0), 1, 2, 1);
        Edges.edge(14, "LESSONS: the same more than once, too; the first as a row of numbers");
        dueLessons(walking(0), 3, 1, 0, 0, 0);
        dueLessons(walking(0, 0), 2, 2, 0, 0);
        dueLessons(walking(0, 4095), 3, 2, 0, 0, 1);
        dueLessons(walking(0b11, 0b1100, 0b110000, 0b11000000, 0b1100000000, 0), 3, 6, 0, 0, 5);
        dueLessons(walking(0, 4095, 63), 2, 2, 0, 1);
        dueLessons(walking(0, 4095, 63), 3, 3, 0, 1, 2);
        Edges.edge(14, "LESSONS: nobody is LET BY by any: the first of all rows, how many: 0");
        dueLessons(housed(walking(0, 4095), "need 13"), 3, 0, 0, 0, 0);
        Edges.edge(14, "LESSONS: all are LET BY by any");
        dueLessons(housed(walking(0, 4095), "need 0"), 2, 2, 0, 0);
        Edges.edge(14, "LESSONS: whichever GATE they come to; a DOG of another GATE isn't LET BY");
        GatesBent x = new GatesBent();
        x.comer(3, 0, 0, 1);
        x.comer(3, 0, 0, 1);
        x.comer(0, 0, 4095, 3);
        dueLessons(x, 1, 1, 2);
        Edges.due(x, 2, "lessons", 1, 1, -1);
        Edges.due(x, 0, "lessons", 1, 1, 0);
    }

    /** LESSONS of gate 0. */
    private static void dueLessons(GatesBent x, int n, int howMany, int... row) {
        Edges.due(x, howMany, "lessons", 0, n, -1);
        for (int k = 0; k < n; k++) {
            Edges.due(x, row[k], "lessons", 0, n, k);
        }
    }

    private static void lessonsThatLose() {
        Edges.edge(14, "LESSONS: TAUGHT to it one behind the other now: what it KNOWS counts");
        GatesBent x = walking(0, 4095);
        know(x, 0, 0);
        know(x, 0, 0);
        dueLessons(x, 1, 2, 1);
        Edges.edge(14, "LESSONS: if it KNEW three, one is lost by each");
        GatesBent y = walking(0, 4095, 0b111111000000);
        know(y, 0, 0b000000111111);
        know(y, 0, 0b000000111111);
        know(y, 0, 0b000000111111);
        dueLessons(y, 1, 1, 0);
        // 4095 would drive out 0 again; the third, like none of what it KNOWS, drives out one of those
        dueLessons(y, 2, 2, 0, 2);
        dueLessons(y, 3, 2, 0, 0, 1);
        Edges.edge(14, "LESSONS: a row by which it loses what it KNEW, one after the other");
        GatesBent z = walking(0, 4095);
        know(z, 0, 4095);
        know(z, 0, 4095);
        know(z, 0, 4095);
        dueLessons(z, 1, 2, 0);
        dueLessons(z, 2, 2, 0, 0);
        dueLessons(z, 3, 2, 0, 0, 1);
        know(z, 0, 0);
        dueLessons(z, 1, 2, 0);
        dueLessons(z, 2, 2, 0, 1);
        dueLessons(z, 3, 2, 0, 0, 1);
    }

    private static void p15() {
        for (Edges.State s : Edges.STATES) {
            Edges.edge(15, "NONE: comer, gate, what (0, 1)");
            for (int p : s.noComers()) {
                Edges.leaves(s, NONE, "feign", p, 0, 0);
            }
            for (int g : Edges.NO_GATES) {
                Edges.leaves(s, NONE, "feign", 0, g, 0);
            }
            for (int what : new int[] {-1, 2, MAX, MIN}) {
                Edges.leaves(s, NONE, "feign", 0, 0, what);
            }
        }
        Edges.edge(15, "FEIGN: none, for both: the GATE KNOWS nothing, NEED is too much; a DOG elsewhere");
        GatesBent x = walking(5);
        dueFeign(x, ABSENT, ABSENT);
        know(x, 0, 0);
        dueFeign(housed(x, "need 13"), ABSENT, ABSENT);
        GatesBent dog = new GatesBent();
        dog.comer(3, 0, 0, 3);
        know(dog, 0, 0);
        dueFeign(dog, ABSENT, ABSENT);
        dueFeign(housed(dog, "need 0"), 0, 0);
        Edges.edge(15, "FEIGN: 0: it is LET BY; the WALK then is its own");
        dueFeign(housed(x, "need 10"), 0, 5);
        x.set(0, 0, 4095);
        dueFeign(housed(x, "need 0"), 0, 4095);
        Edges.edge(15, "FEIGN: each least number up to 12; of several the least as bits");
        for (int need = 1; need <= 12; need++) {
            GatesBent y = walking(4095);
            know(y, 0, 0);
            // need marks go: the highest ones, for the least walk
            dueFeign(housed(y, "need " + need), need, (1 << (12 - need)) - 1);
            GatesBent z = walking(0);
            know(z, 0, 4095);
            dueFeign(housed(z, "need " + need), need, (1 << need) - 1);
        }
        Edges.edge(15, "FEIGN: the fewest MARKS ahead of the least WALK; of the walks of a GATE the nearest");
        GatesBent y = walking(0b111111111000);
        know(y, 0, 0);
        know(y, 0, 4095);
        dueFeign(housed(y, "need 12"), 3, 4095);
        know(y, 0, 0b111111000000);
        dueFeign(y, 3, 0b111111000000);
        dueFeign(housed(y, "need 11"), 2, 0b111111001000 - 0b1000 + 0b001000);
    }

    private static void dueFeign(GatesBent x, int marks, int walk) {
        Edges.due(x, marks, "feign", 0, 0, 0);
        Edges.due(x, walk, "feign", 0, 0, 1);
    }

    private static void p16() {
        for (Edges.State s : Edges.STATES) {
            Edges.edge(16, "NONE: comer, gate; ahead of FULL");
            for (int p : s.noComers()) {
                if (p != -1) {
                    Edges.leaves(s, NONE, "see", p, 0, 1);
                }
            }
            Edges.leaves(s, NONE, "see", -2, 0, 0);
            for (int g : Edges.NO_GATES) {
                Edges.leaves(s, NONE, "see", 0, g, 1);
            }
        }
        Edges.edge(16, "how many there are; FULL: 5: the fifth comes, the sixth doesn't");
        GatesBent x = walking(0, 0);
        for (int k = 1; k <= 5; k++) {
            Edges.due(x, k, "see", 0, 3, 0);
            Edges.due(x, k, "count", 2);
        }
        Edges.due(x, FULL, "see", 0, 3, 0);
        Edges.due(x, 5, "count", 2);
        Edges.leaves(Edges.WHOLE, FULL, "see", 0, 0, 1);
        Edges.leaves(Edges.WHOLE, FULL, "see", 5, 3, 0);
        Edges.edge(16, "comer -1: none then, 0, whatever the rest is: full, empty, a gate that is none");
        Edges.due(x, 0, "see", -1, 99, 1);
        Edges.due(x, 0, "count", 2);
        Edges.due(x, 0, "see", -1, MIN, 0);
        Edges.due(x, 1, "see", 1, 0, 1);
        Edges.leaves(Edges.EMPTY, 0, "see", -1, -1, 0);
    }

    private static void p17() {
        Edges.edge(17, "FALSE: -5: all are; none is SEEN");
        Edges.leaves(Edges.EMPTY, ABSENT, "wrong");
        GatesBent x = walking(0, 4095);
        know(x, 0, 0);
        Edges.due(x, ABSENT, "wrong");
        for (int k = 0; k < 5; k++) {
            x.see(k % 2, 0, k % 2 == 0);
        }
        Edges.due(x, ABSENT, "wrong");
        Edges.edge(17, "FALSE: the first row of SEEN that is not so: row 0 .. 4, of several the first");
        for (int row = 0; row < 5; row++) {
            GatesBent y = walking(0, 4095);
            know(y, 0, 0);
            for (int k = 0; k < 5; k++) {
                y.see(k % 2, 0, k % 2 == 0 ^ k >= row);
            }
            Edges.due(y, row, "wrong");
        }
        Edges.edge(17, "FALSE: whether that LETS it BY now; at that GATE, not at its own");
        x.forget(0);
        Edges.due(x, 0, "wrong");
        GatesBent z = walking(0);
        know(z, 3, 0);
        z.see(0, 3, true);
        Edges.due(z, ABSENT, "wrong");
        z.see(0, 0, true);
        Edges.due(z, 1, "wrong");
    }

    private static void p18() {
        for (Edges.State s : Edges.STATES) {
            Edges.edge(18, "NONE: comer, which (0, 1), what (0, 1)");
            for (int p : s.noComers()) {
                Edges.leaves(s, NONE, "can", p, 0, 0);
                Edges.leaves(s, NONE, "can", p, 1, 1);
            }
            for (int n : new int[] {-1, 2, MAX, MIN}) {
                Edges.leaves(s, NONE, "can", 0, n, 0);
                Edges.leaves(s, NONE, "can", 0, 0, n);
                Edges.leaves(s, NONE, "can", 0, 1, n);
            }
        }
        Edges.edge(18, "WALKS: nothing is SEEN of it: all 4096, the least 0; CAN: all 10, the least 0");
        GatesBent x = new GatesBent();
        x.comer(1, 4, 77, 0);
        x.comer(0, 0, 0, 0);
        dueCan(x, 0, 4096, 0);
        dueCan(x, 1, 10, 0);
        x.see(1, 0, true);
        dueCan(x, 0, 4096, 0);
        dueCan(x, 1, 10, 0);
        Edges.edge(18, "WALKS: -5: none; CAN: -5: none");
        x.see(0, 0, true);
        dueCan(x, 0, 0, ABSENT);
        dueCan(x, 1, 0, ABSENT);
        Edges.edge(18, "WALKS: one alone: 4095, 0");
        GatesBent y = walking(0, 0);
        housed(y, "need 12");
        know(y, 0, 4095);
        know(y, 1, 0);
        y.see(0, 0, true);
        dueCan(y, 0, 1, 4095);
        y.see(-1, 0, false);
        y.see(0, 1, true);
        dueCan(y, 0, 1, 0);
        Edges.edge(18, "WALKS: all but one: the least is 1, or 0");
        y.see(-1, 0, false);
        y.see(0, 1, false);
        dueCan(y, 0, 4095, 1);
        y.see(-1, 0, false);
        y.see(0, 0, false);
        dueCan(y, 0, 4095, 0);
        Edges.edge(18, "WALKS: all of SEEN that is of it, the first and the fifth row");
        y.see(-1, 0, false);
        y.see(0, 0, false);
        for (int k = 0; k < 3; k++) {
            y.see(1, 0, true);
        }
        y.see(0, 1, false);
        dueCan(y, 0, 4094, 1);
        canByNumber();
    }

    private static void canByNumber() {
        Edges.edge(18, "CAN: v 9 alone, v 0 alone, each count; the least");
        for (int marks = 0; marks < 10; marks++) {
            GatesBent x = new GatesBent();
            x.comer(1, 4, 0, 0);
            know(x, 0, (1 << (12 - marks)) - 1);
            housed(x, "need 9");
            x.see(0, 0, true);
            dueCan(x, 1, marks + 1, 9 - marks);
            x.see(-1, 0, true);
            x.see(0, 0, false);
            dueCan(x, 1, 9 - marks, marks == 9 ? ABSENT : 0);
        }
        Edges.edge(18, "CAN: its v and its WALK are what they were, and asked by number, not by v");
        GatesBent x = new GatesBent();
        x.comer(0, 4, 9, 0);
        x.comer(0, 7, 9, 0);
        know(x, 0, 9);
        housed(x, "help 1 v=9&p=1;need 13");
        x.see(1, 0, true);
        dueCanOf(x, 1, 1, 1, 9);
        Edges.due(x, 7, "of", 1, 1);
        x.see(0, 0, true);
        dueCanOf(x, 0, 1, 0, ABSENT);
        dueCanOf(x, 0, 0, 0, ABSENT);
    }

    private static void dueCan(GatesBent x, int which, int howMany, int least) {
        dueCanOf(x, 0, which, howMany, least);
    }

    private static void dueCanOf(GatesBent x, int comer, int which, int howMany, int least) {
        Edges.due(x, howMany, "can", comer, which, 0);
        Edges.due(x, least, "can", comer, which, 1);
    }

    private static void p19() {
        for (Edges.State s : Edges.STATES) {
            Edges.edge(19, "NO: comer, gate, part (0, 1)");
            for (int p : s.noComers()) {
                Edges.leaves(s, NO, "odds", p, 0, 0);
            }
            for (int g : Edges.NO_GATES) {
                Edges.leaves(s, NO, "odds", 0, g, 1);
            }
            for (int part : new int[] {-1, 2, MAX, MIN}) {
                Edges.leaves(s, NO, "odds", 0, 0, part);
            }
        }
        Edges.edge(19, "ODDS: none of the 12: 0 by 1; all: 1 by 1");
        GatesBent x = walking(0);
        dueOdds(x, 0, 1);
        know(x, 0, 0);
        dueOdds(x, 1, 1);
        dueOdds(housed(x, "need 12"), 0, 1);
        dueOdds(housed(x, "need 11"), 1, 1);
        Edges.edge(19, "ODDS: a fraction in lowest terms: 1 .. 11 of 12");
        int[][] lowest = {{1, 12}, {1, 6}, {1, 4}, {1, 3}, {5, 12}, {1, 2}, {7, 12}, {2, 3}, {3, 4}, {5, 6},
            {11, 12}};
        for (int off = 1; off < 12; off++) {
            GatesBent y = walking((1 << off) - 1);
            know(y, 0, 0);
            // just one mark too few are alike, and just enough
            dueOdds(housed(y, "need " + (13 - off)), lowest[off - 1][0], lowest[off - 1][1]);
            dueOdds(housed(y, "need " + (12 - off)), lowest[off - 1][0], lowest[off - 1][1]);
        }
        Edges.edge(19, "ODDS: MARK 0 and MARK 11 alone");
        for (int walk : new int[] {1, 2048}) {
            GatesBent y = walking(walk);
            know(y, 0, 0);
            dueOdds(housed(y, "need 12"), 1, 12);
            Edges.due(y, walk, "of", 0, 2);
        }
        Edges.edge(19, "ODDS: one of the 12 goes or comes always: that it is LET BY now doesn't count");
        GatesBent z = walking(0);
        know(z, 0, 0);
        housed(z, "need 12");
        Edges.due(z, 1, "of", 0, 10);
        dueOdds(z, 0, 1);
    }

    private static void dueOdds(GatesBent x, int above, int below) {
        Edges.due(x, above, "odds", 0, 0, 0);
        Edges.due(x, below, "odds", 0, 0, 1);
    }

    private static void p20() {
        for (Edges.State s : Edges.STATES) {
            Edges.edge(20, "NO: n (0 .. 60), part (0, 1)");
            for (int n : new int[] {-1, 61, MAX, MIN}) {
                Edges.leaves(s, NO, "mean", n, 0);
                Edges.leaves(s, NO, "mean", 0, n);
            }
            Edges.leaves(s, NO, "mean", 0, 2);
        }
        Edges.edge(20, "NO: there are none");
        Edges.leaves(Edges.EMPTY, NO, "mean", 0, 0);
        Edges.leaves(Edges.EMPTY, NO, "mean", 0, 1);
        Edges.leaves(Edges.EMPTY, NO, "mean", 60, 0);
        Edges.edge(20, "MEAN of 0 DAYS, of 1, of 60; a fraction in lowest terms; 0 by 1");
        GatesBent x = walking(0, 4095, 4095, 4095, 4095, 4095);
        dueMean(x, 0, 0, 1);
        dueMean(x, 60, 0, 1);
        know(x, 0, 0);
        dueMean(x, 0, 0, 1);
        dueMean(x, 1, 1, 6);
        dueMean(x, 2, 1, 3);
        dueMean(x, 3, 1, 2);
        dueMean(x, 4, 2, 3);
        dueMean(x, 5, 5, 6);
        dueMean(x, 6, 1, 1);
        dueMean(x, 59, 59, 6);
        dueMean(x, 60, 10, 1);
        Edges.edge(20, "MEAN: by how many they are: one");
        GatesBent y = walking(0);
        know(y, 0, 0);
        dueMean(y, 60, 60, 1);
        y.pass(7);
        dueMean(y, 0, 7, 1);
    }

    private static void dueMean(GatesBent x, int n, int above, int below) {
        Edges.due(x, above, "mean", n, 0);
        Edges.due(x, below, "mean", n, 1);
    }

    private static void p21() {
        for (Edges.State s : Edges.STATES) {
            Edges.edge(21, "NONE: what (0 .. 3), ahead of FULL");
            for (int what : new int[] {-2, 4, 10, MAX, MIN}) {
                Edges.leaves(s, NONE, "plan", what, 0);
            }
            Edges.edge(21, "NONE: gate, comer (by 1), ahead of FULL");
            int many = s.made().count(0);
            for (int n : new int[] {-1, -10, 40, 45, many, 10 + many, 30 + many, 6, 9, 39, 100, MAX, MIN}) {
                Edges.leaves(s, NONE, "plan", 1, n);
            }
            Edges.edge(21, "NONE: gate (by 2), ahead of FULL");
            for (int g : Edges.NO_GATES) {
                Edges.leaves(s, NONE, "plan", 2, g);
            }
            Edges.edge(21, "NONE: comer (by 3), ahead of FULL");
            for (int p : s.noComers()) {
                Edges.leaves(s, NONE, "plan", 3, p);
            }
        }
        Edges.edge(21, "what 0 .. 3, gate 0 and 3, comer 0 and 5");
        GatesBent x = comers(6);
        int[][] rows = {{1, 0}, {1, 35}, {1, 5}, {1, 30}, {2, 0}, {2, 3}, {3, 0}, {3, 5}};
        for (int k = 0; k < rows.length; k++) {
            Edges.due(x, k + 1, "plan", rows[k][0], rows[k][1]);
        }
        Edges.edge(21, "by 0 n does not matter");
        Edges.due(x, 9, "plan", 0, MIN);
        Edges.due(x, 10, "plan", 0, MAX);
        Edges.edge(21, "FULL: 10: the tenth comes, the eleventh doesn't");
        Edges.due(x, FULL, "plan", 0, 0);
        Edges.due(x, 10, "count", 3);
        for (int what = 0; what < 4; what++) {
            Edges.leaves(Edges.WHOLE, FULL, "plan", what, 0);
        }
        Edges.edge(21, "what -1: it is empty then, 0, whatever the rest is: full, empty");
        Edges.due(x, 0, "plan", -1, 99);
        Edges.due(x, 0, "count", 3);
        Edges.due(x, 0, "plan", -1, MIN);
        Edges.due(x, 1, "plan", 0, 0);
        Edges.leaves(Edges.EMPTY, 0, "plan", -1, -1);
    }

    private static void p22() {
        Edges.edge(22, "NONE: what (0, 1)");
        for (Edges.State s : Edges.STATES) {
            for (int what : new int[] {-1, 2, MAX, MIN}) {
                Edges.leaves(s, NONE, "ends", what);
            }
        }
        Edges.edge(22, "ENDS: an empty PLAN: as all is; nobody: 0");
        Edges.leaves(Edges.EMPTY, 0, "ends", 0);
        Edges.leaves(Edges.EMPTY, 0, "ends", 1);
        GatesBent x = walking(0, 4095);
        know(x, 0, 0);
        x.pass(4);
        dueEnds(x, 4, 1);
        Edges.edge(22, "ENDS: days go though there are no COMERS");
        GatesBent none = new GatesBent();
        none.plan(0, 0);
        dueEnds(none, 0, 0);
        Edges.edge(22, "ENDS: row by row, all ten of them");
        for (int k = 0; k < 9; k++) {
            x.plan(0, 0);
        }
        dueEnds(x, 13, 1);
        x.plan(1, 1);
        dueEnds(x, 13, 3);
        x.plan(-1, 0);
        x.plan(1, 1);
        x.plan(0, 0);
        dueEnds(x, 6, 3);
        x.plan(2, 0);
        x.plan(0, 0);
        dueEnds(x, 6, 0);
        Edges.edge(22, "ENDS: a GATE that KNEW three loses one by a lesson");
        GatesBent y = walking(0, 4095);
        know(y, 3, 0);
        know(y, 3, 0);
        know(y, 3, 0);
        y.set(0, 1, 3);
        y.set(1, 1, 3);
        for (int k = 0; k < 2; k++) {
            y.plan(1, 31);
            dueEnds(y, 0, 3);
        }
        y.plan(1, 31);
        dueEnds(y, 0, 2);
        Edges.due(y, 0, "told", 19);
        Edges.edge(22, "ENDS: 3: TRIES of a COMER are 0, of that alone");
        GatesBent z = new GatesBent();
        z.comer(5, 0, 4095, 0);
        z.comer(5, 0, 4095, 0);
        know(z, 0, 0);
        z.set(0, 2, 9);
        z.set(1, 2, 9);
        dueEnds(z, 0, 3);
        z.plan(3, 0);
        dueEnds(z, 0, 2);
        z.plan(3, 1);
        dueEnds(z, 0, 0);
        Edges.due(z, 9, "of", 0, 4);
        Edges.edge(22, "ENDS: TRIES are 0 then, no more and no less");
        dueEnds(housed(z, "need 4"), 0, 3);
        dueEnds(housed(z, "need 5"), 0, 0);
    }

    private static void dueEnds(GatesBent x, int passed, int bits) {
        Edges.due(x, passed, "ends", 0);
        Edges.due(x, bits, "ends", 1);
    }

    private static void p23() {
        for (Edges.State s : Edges.STATES) {
            Edges.edge(23, "NONE: comer, ahead of BAD and of FULL");
            for (int p : s.noComers()) {
                if (p != -1) {
                    Edges.leaves(s, NONE, "book", p, 0);
                    Edges.leaves(s, NONE, "book", p, 10000);
                }
            }
            Edges.leaves(s, NONE, "book", -2, 0);
        }
        Edges.edge(23, "BAD: PASSED (0 .. 9999), ahead of FULL");
        for (int passed : new int[] {-1, 10000, MAX, MIN}) {
            Edges.leaves(Edges.SOME, BAD, "book", 0, passed);
            Edges.leaves(Edges.WHOLE, BAD, "book", 5, passed);
        }
        Edges.edge(23, "how many there are; 0 and 9999; FULL: 8: the eighth comes, the ninth doesn't");
        GatesBent x = comers(6);
        for (int k = 1; k <= 8; k++) {
            Edges.due(x, k, "book", k % 6, k % 2 == 0 ? 0 : 9999);
            Edges.due(x, k, "count", 4);
        }
        Edges.due(x, FULL, "book", 0, 0);
        Edges.due(x, 8, "count", 4);
        Edges.leaves(Edges.WHOLE, FULL, "book", 0, 0);
        Edges.leaves(Edges.WHOLE, FULL, "book", 5, 9999);
        Edges.edge(23, "comer -1: it is empty then, 0, whatever the rest is: full, empty");
        Edges.due(x, 0, "book", -1, 10000);
        Edges.due(x, 0, "count", 4);
        Edges.due(x, 0, "book", -1, -1);
        Edges.due(x, 1, "book", 0, 0);
        Edges.leaves(Edges.EMPTY, 0, "book", -1, -1);
    }

    private static void p24() {
        Edges.edge(24, "LOOKED at: -5: none: no rows, all as told");
        Edges.leaves(Edges.EMPTY, ABSENT, "looked");
        GatesBent x = comers(2);
        Edges.due(x, ABSENT, "looked");
        for (int k = 0; k < 8; k++) {
            x.book(k % 2, 0);
        }
        Edges.due(x, ABSENT, "looked");
        Edges.edge(24, "the number (from 0) of the first of these rows by which it is otherwise: 0 .. 7");
        for (int row = 0; row < 8; row++) {
            GatesBent y = comers(2);
            for (int k = 0; k < 8; k++) {
                y.book(k % 2, k < row ? 0 : 1);
            }
            Edges.due(y, row, "looked");
        }
        Edges.edge(24, "otherwise: by one less, too; as it is now");
        GatesBent y = comers(1);
        know(y, 0, 0);
        y.book(0, 1);
        Edges.due(y, 0, "looked");
        y.pass(1);
        Edges.due(y, ABSENT, "looked");
        y.pass(1);
        Edges.due(y, 0, "looked");
        Edges.edge(24, "PASSED 9999");
        GatesBent z = Edges.LATE.made();
        z.book(0, 9999);
        Edges.due(z, ABSENT, "looked");
        z.book(0, 9998);
        Edges.due(z, 1, "looked");
    }

    private static void p25() {
        Edges.edge(25, "NONE: tape: below 0, above 5");
        for (Edges.State s : Edges.STATES) {
            for (int t : new int[] {-1, 6, MAX, MIN}) {
                Edges.leaves(s, NONE, "judge", t, 0);
            }
        }
        Edges.edge(25, "CAST: it is no row of shorts: each other sort, wherever the place is, empty or not");
        for (int t : new int[] {0, 2, 3, 4}) {
            for (int i : new int[] {-1, 0, 1, 60, MAX, MIN}) {
                Edges.leaves(Edges.SOME, CAST, "judge", t, i);
            }
            GatesBent x = walking(0);
            x.tape(5, t, 0);
            Edges.due(x, CAST, "judge", 5, 0);
        }
        Edges.edge(25, "CAST: the first that the call's words name: ahead of -5, there are no COMERS");
        GatesBent nobody = new GatesBent();
        for (int t : new int[] {0, 2, 3, 4}) {
            nobody.tape(t, t, 2 * t);
            for (int i : new int[] {-1, 0, 60, MAX, MIN}) {
                Edges.due(nobody, CAST, "judge", t, i);
            }
        }
        Edges.edge(25, "-5: there are no COMERS (wherever the place is, also if the TAPE holds nothing)");
        GatesBent x = new GatesBent();
        x.tape(1, 1, 3);
        x.tape(2, 1, 0);
        for (int i : new int[] {-1, 0, 2, 3, 60, MAX, MIN}) {
            for (int t = 0; t < 3; t++) {
                Edges.due(x, ABSENT, "judge", t, i);
            }
        }
        Edges.edge(25, "100 and how many were looked at: the TAPE holds nothing, the place is below 0");
        GatesBent y = walking(0, 0);
        for (int i : new int[] {-1, 0, 59, 60, MAX, MIN}) {
            Edges.due(y, 100, "judge", 0, i);
        }
        y.tape(0, 1, 60);
        for (int i : new int[] {-1, -2, 60, 61, MAX, MAX - 1, MIN, MIN + 1}) {
            Edges.due(y, 100, "judge", 0, i);
        }
        Edges.edge(25, "100 and how many were looked at: the row ends ahead of that");
        Edges.due(y, ABSENT, "judge", 0, 58);
        Edges.due(y, 101, "judge", 0, 59);
        for (int length = 0; length < 8; length++) {
            GatesBent z = comers(6);
            z.tape(0, 1, length);
            Edges.due(z, length < 6 ? 100 + length : ABSENT, "judge", 0, 0);
        }
        judgedOtherwise();
    }

    private static void judgedOtherwise() {
        Edges.edge(25, "JUDGED: the first that is otherwise (counted from 0 from that place on): 0 .. 5, -5");
        for (int first = 0; first < 7; first++) {
            for (int place : new int[] {0, 3}) {
                GatesBent x = comers(6);
                x.tape(4, 1, 9);
                for (int p = first; p < 6; p++) {
                    x.item(4, place + p, 1);
                }
                Edges.due(x, first < 6 ? first : ABSENT, "judge", 4, place);
            }
        }
        Edges.edge(25, "JUDGED: otherwise ahead of where the row ends, and the other way round");
        GatesBent x = comers(3);
        x.tape(0, 1, 2);
        Edges.due(x, 102, "judge", 0, 0);
        x.item(0, 1, 1);
        Edges.due(x, 1, "judge", 0, 0);
        Edges.due(x, 0, "judge", 0, 1);
        Edges.edge(25, "JUDGED: WALKS 0 and 4095, shorts below 0 and above 4095");
        GatesBent y = walking(4095);
        y.tape(0, 1, 1);
        int[] items = {4095, 4096, -1, 4094, 4095 - 65536, 8191, 0};
        for (int item : items) {
            y.item(0, 0, item);
            Edges.due(y, (short) item == 4095 ? ABSENT : 0, "judge", 0, 0);
        }
    }

    private static void p26() {
        Edges.edge(26, "THE IMAGE is taken: how many COMERS there are: 0, 6; and changes nothing");
        Edges.due(new GatesBent(), 0, "image");
        Edges.due(comers(6), 6, "image");
        GatesBent x = Edges.SOME.made();
        Edges.due(x, 4, "image");
        Edges.due(x, 7, "told", 0);
        Edges.edge(26, "taken anew: the one before is no more");
        x.pass(1);
        Edges.due(x, 4, "image");
        x.pass(1);
        Edges.due(x, 4, "undo");
        Edges.due(x, 8, "told", 0);
    }

    private static void p27() {
        Edges.edge(27, "STATE: there is none");
        Edges.leaves(Edges.EMPTY, STATE, "undo");
        Edges.leaves(Edges.LATE, STATE, "undo");
        Edges.edge(27, "All is as THE IMAGE: how many COMERS: 0, of nothing");
        GatesBent x = new GatesBent();
        x.image();
        x.comer(0, 0, 0, 0);
        x.teach(3, 0);
        x.pass(60);
        x.see(0, 0, true);
        x.plan(0, 0);
        x.book(0, 0);
        Edges.house(x, "need 1;age 1");
        Edges.due(x, 0, "undo");
        for (int what = 0; what < 5; what++) {
            Edges.due(x, what == 1 ? 1 : 0, "count", what);
        }
        Edges.due(x, 0, "told", 0);
        Edges.due(x, 10, "told", 1);
        Edges.due(x, 0, "told", 2);
        Edges.due(x, 0, "forget", 3);
        Edges.edge(27, "THE IMAGE stays: again, and again");
        Edges.due(x, 0, "comer", 0, 0, 0, 0);
        Edges.due(x, 0, "undo");
        Edges.due(x, 0, "undo");
        Edges.due(x, 0, "count", 0);
        Edges.edge(27, "THE IMAGE of all that is full, as it was, and fewer made more again");
        GatesBent y = Edges.WHOLE.made();
        Edges.due(y, 6, "image");
        Edges.due(y, 0, "see", -1, 0, 0);
        Edges.due(y, 0, "plan", -1, 0);
        Edges.due(y, 0, "book", -1, 0);
        for (int g = 0; g < 4; g++) {
            Edges.due(y, 3, "forget", g);
        }
        Edges.due(y, 6, "undo");
        Edges.due(y, 5, "count", 2);
        Edges.due(y, 10, "count", 3);
        Edges.due(y, 8, "count", 4);
        for (int g = 0; g < 4; g++) {
            Edges.due(y, 3, "forget", g);
        }
        theImageHolds();
    }

    /** Of what THE IMAGE tells, each by itself: changed, and as it was again. */
    private static void theImageHolds() {
        Edges.edge(27, "THE IMAGE: GATES, COMERS with all that is theirs, DAY, SEEN, the PLAN, the BOOK");
        Edges.State imaged = new Edges.State("an image just taken", x -> {
            Edges.SOME.run.accept(x);
            x.image();
        });
        String[] names = {"set", "set", "set", "row", "teach", "forget", "comer", "see", "see", "plan", "plan",
            "book", "book", "pass"};
        long[][] args = {{1, 0, 99}, {1, 1, 3}, {2, 2, 9}, {0, 2, 9}, {1, 3}, {0}, {0, 0, 0, 0}, {0, 0, 1},
            {-1, 0, 0}, {0, 0}, {-1, 0}, {1, 1}, {-1, 0}, {60}};
        for (int k = 0; k < names.length; k++) {
            String name = names[k];
            long[] a = args[k];
            Edges.State changed = new Edges.State("an image, then " + name, x -> {
                imaged.run.accept(x);
                Edges.call(x, name, a);
                x.undo();
            });
            Edges.same(imaged, changed);
        }
        Edges.edge(27, "THE IMAGE: SEEN, the PLAN, the BOOK, as many rows as there were, but others");
        Edges.same(imaged, new Edges.State("an image, then other rows", x -> {
            imaged.run.accept(x);
            x.see(-1, 0, false);
            x.plan(-1, 0);
            x.book(-1, 0);
            for (int k = 0; k < 3; k++) {
                x.see(k, k, k != 1);
                x.book(k + 1, 5 * k);
            }
            for (int k = 0; k < 4; k++) {
                x.plan(3, k);
            }
            x.undo();
        }));
        Edges.same(imaged, new Edges.State("an image, then SEEN the other way round", x -> {
            imaged.run.accept(x);
            x.see(-1, 0, false);
            x.see(2, 3, false);
            x.see(0, 1, false);
            x.see(3, 2, true);
            x.undo();
        }));
        Edges.edge(27, "which HOUSE holds: THE IMAGE's; how many there are, THE TEXT, TAPES, THE TRACE stay");
        GatesBent x = Edges.SOME.made();
        x.image();
        Edges.due(x, 2, "house");
        Edges.dueHouse(x, 3, "age 9");
        x.feed('n');
        x.tape(5, 0, 9);
        x.act(1, 0, 0);
        Edges.due(x, 10, "told", 1);
        Edges.due(x, 4, "undo");
        Edges.due(x, 8, "told", 1);
        Edges.due(x, 3, "told", 2);
        Edges.due(x, 4, "count", 1);
        Edges.due(x, 1, "count", 5);
        Edges.due(x, 2, "count", 6);
        Edges.due(x, 0, "read", 5, 8);
        Edges.dueHouse(x, 4, "eed 1");
        Edges.due(x, 1, "told", 1);
    }

    private static void p28() {
        Edges.edge(28, "0, and no TRACE then: no such COMER");
        for (Edges.State s : Edges.STATES) {
            for (int p : s.noComers()) {
                dueNoAct(s.made(), p, 0);
                dueNoAct(s.made(), p, 3);
            }
        }
        Edges.edge(28, "0, and no TRACE then: no such act: below 0, above 2");
        for (int act : new int[] {-1, 3, MAX, MIN}) {
            dueNoAct(Edges.SOME.made(), 0, act);
            dueNoAct(Edges.WHOLE.made(), 5, act);
        }
        Edges.edge(28, "ACTS of a COMER with x (wrapping)");
        GatesBent x = new GatesBent();
        int[] kinds = {0, 1, 2, 3, 5, 6};
        for (int p = 0; p < 6; p++) {
            x.comer(kinds[p], 9, 0, 0);
        }
        for (int at : new int[] {MAX, MIN, MAX - 1, MIN + 1, -1, 0, 1, 1431655766, 715827883}) {
            dueActs(x, at);
        }
        Edges.edge(28, "ACTS of an AGED one with x (wrapping): x + 1 at the greatest, - of the least");
        GatesBent y = new GatesBent();
        y.comer(4, 9, 0, 0);
        Edges.due(y, MIN, "act", 0, 0, MIN);
        Edges.due(y, -MAX, "act", 0, 0, MAX);
        // 51: 20 with the least, 11: what 50 makes of that, less 9, then ^ 6
        Edges.due(y, (MIN - 9) ^ 6, "act", 0, 1, MAX);
        Edges.due(y, ((MIN - 9) ^ 6) * 2, "act", 0, 2, MAX);
        Edges.due(y, (-(MIN + 1) - 9) ^ 6, "act", 0, 1, MIN);
    }

    private static void dueNoAct(GatesBent x, int comer, int act) {
        x.act(0, 2, 1);
        Edges.due(x, 0, "act", comer, act, 7);
        Edges.due(x, 0, "count", 6);
        Edges.due(x, NONE, "trace", 0);
    }

    /** Kinds 0, 1, 2, 3, 5, 6, by their bodies one by one; v is 9. */
    private static void dueActs(GatesBent x, int at) {
        int[] walks = {at, at + 1, at * 3 + 2, at + 3, at * 3 + 4, (at + 5) ^ 9};
        int[] ones = {1, 2, 5, 4, 7, 6 ^ 9};
        for (int p = 0; p < 6; p++) {
            int knocks = walks[p] - 9;
            int tells = knocks * 2;
            if (p == 1) {
                knocks ^= 6;
                tells = knocks * 2;
            } else if (p == 3) {
                tells += ones[p] - 9;
            } else if (p == 4) {
                tells = ((at - 4) * 3 + 4 - 9) * 2;
            } else if (p == 5) {
                knocks += 7;
                tells = knocks * 2 + ones[p] - 9 + 7;
            }
            Edges.due(x, walks[p], "act", p, 0, at);
            Edges.due(x, knocks, "act", p, 1, at);
            Edges.due(x, tells, "act", p, 2, at);
        }
    }

    private static void p29() {
        Edges.edge(29, "NONE: no act yet");
        for (int i : new int[] {-1, 0, 1, 19, 20, MAX, MIN}) {
            Edges.leaves(Edges.EMPTY, NONE, "trace", i);
        }
        Edges.edge(29, "THE TRACE: the latest act() alone: the i-th from 0 to the last; NONE behind");
        GatesBent x = new GatesBent();
        x.comer(6, 0, 0, 0);
        int[] tells = {40, 12, 70, 11, 71, 10, 10, 70, 11, 71, 10, 10};
        x.act(0, 2, 0);
        for (int i = 0; i < 12; i++) {
            Edges.due(x, tells[i], "trace", i);
        }
        for (int i : new int[] {-1, 12, 13, 19, 20, 21, MAX, MIN}) {
            Edges.due(x, NONE, "trace", i);
        }
        Edges.edge(29, "THE TRACE: a shorter one behind a longer one");
        x.act(0, 0, 0);
        Edges.due(x, 71, "trace", 0);
        Edges.due(x, 10, "trace", 1);
        Edges.due(x, NONE, "trace", 2);
        Edges.edge(29, "the body of its KIND, or, if that has none, of the next KIND above that has one");
        int[][][] bodies = {
            {{10}, {11, 10}, {12, 11, 10}},
            {{10}, {20, 11, 10}, {12, 20, 11, 10}},
            {{30, 10}, {11, 30, 10}, {12, 11, 30, 10}},
            {{10}, {11, 10}, {40, 12, 11, 10, 11, 10}},
            {{50, 10}, {51, 20, 11, 50, 10}, {12, 51, 20, 11, 50, 10}},
            {{30, 10}, {11, 30, 10}, {60, 12, 11, 30, 10}},
            {{71, 10}, {70, 11, 71, 10, 10}, tells}};
        for (int kind = 0; kind < 7; kind++) {
            GatesBent y = new GatesBent();
            y.comer(kind, 0, 0, 0);
            for (int act = 0; act < 3; act++) {
                y.act(0, act, 3);
                Edges.due(y, bodies[kind][act].length, "count", 6);
                for (int i = 0; i < bodies[kind][act].length; i++) {
                    Edges.due(y, bodies[kind][act][i], "trace", i);
                }
                Edges.due(y, NONE, "trace", bodies[kind][act].length);
            }
        }
        Edges.edge(29, "THE TRACE is kept, whatever else is called");
        x.pass(1);
        x.undo();
        x.trace(9);
        Edges.due(x, 71, "trace", 0);
        Edges.due(x, 2, "count", 6);
    }

    private static void p30() {
        for (Edges.State s : Edges.STATES) {
            Edges.edge(30, "BAD: k (0 .. 6), ahead of NOTHING");
            for (int k : new int[] {-1, 7, MAX, MIN}) {
                Edges.leaves(s, BAD, "taken", 0, k);
                Edges.leaves(s, BAD, "taken", -1, k);
            }
            Edges.edge(30, "NOTHING: no such COMER");
            for (int p : s.noComers()) {
                Edges.leaves(s, NOTHING, "taken", p, 0);
                Edges.leaves(s, NOTHING, "taken", p, 6);
            }
        }
        Edges.edge(30, "of KIND k (0 .. 6), or one under that: its KIND; CAST: each with each");
        boolean[][] is = new boolean[7][7];
        int[][] under = {{0, 0}, {1, 1}, {1, 0}, {2, 2}, {2, 0}, {3, 3}, {3, 0}, {4, 4}, {4, 1}, {4, 0}, {5, 5},
            {5, 2}, {5, 0}, {6, 6}, {6, 3}, {6, 0}};
        for (int[] pair : under) {
            is[pair[0]][pair[1]] = true;
        }
        for (int kind = 0; kind < 7; kind++) {
            GatesBent x = new GatesBent();
            x.comer(kind, 0, 0, 0);
            for (int k = 0; k < 7; k++) {
                Edges.due(x, is[kind][k] ? kind : CAST, "taken", 0, k);
            }
        }
        Edges.edge(30, "CAST changes nothing");
        Edges.leaves(Edges.SOME, CAST, "taken", 0, 4);
        Edges.leaves(Edges.WHOLE, CAST, "taken", 0, 6);
    }

    private static void p31() {
        Edges.edge(31, "BAD: below 0, above 6");
        for (Edges.State s : Edges.STATES) {
            for (int what : new int[] {-1, 7, MAX, MIN}) {
                Edges.leaves(s, BAD, "count", what);
            }
        }
        Edges.edge(31, "How many: as many as there can be");
        int[] most = {6, 6, 5, 10, 8, 100, 12};
        int[] some = {4, 2, 3, 4, 3, 6, 12};
        for (int what = 0; what < 7; what++) {
            Edges.leaves(Edges.EMPTY, 0, "count", what);
            Edges.leaves(Edges.WHOLE, most[what], "count", what);
            Edges.leaves(Edges.SOME, some[what], "count", what);
        }
        Edges.edge(31, "bodies that ran in the latest act(): one, 12");
        GatesBent x = new GatesBent();
        x.comer(0, 0, 0, 0);
        x.comer(6, 0, 0, 0);
        x.act(1, 2, 0);
        Edges.due(x, 12, "count", 6);
        x.act(0, 0, 0);
        Edges.due(x, 1, "count", 6);
    }

    private static void p32() {
        for (Edges.State s : Edges.STATES) {
            Edges.edge(32, "NONE: tape, whatever the rest is");
            for (int t : new int[] {-1, 6, MAX, MIN}) {
                Edges.leaves(s, NONE, "tape", t, 0, 1);
                Edges.leaves(s, NONE, "tape", t, -1, 0);
                Edges.leaves(s, NONE, "tape", t, 9, -1);
            }
            Edges.edge(32, "BAD: sort, ahead of SIZE");
            for (int sort : new int[] {-2, 5, 6, MAX, MIN}) {
                Edges.leaves(s, BAD, "tape", 0, sort, 1);
                Edges.leaves(s, BAD, "tape", 0, sort, -1);
                Edges.leaves(s, BAD, "tape", 5, sort, 61);
            }
            Edges.edge(32, "BAD: n above 60");
            for (int n : new int[] {61, 100, MAX}) {
                Edges.leaves(s, BAD, "tape", 0, 0, n);
                Edges.leaves(s, BAD, "tape", 5, 4, n);
            }
            Edges.edge(32, "SIZE: a size below 0");
            for (int n : new int[] {-1, -60, MIN}) {
                Edges.leaves(s, SIZE, "tape", 0, 0, n);
                Edges.leaves(s, SIZE, "tape", 5, 4, n);
            }
        }
        Edges.edge(32, "a row of n (0 .. 60) of a sort 0 .. 4, all 0: n 0, 1, 60; TAPE 0 and 5");
        GatesBent x = new GatesBent();
        for (int t = 0; t < 6; t += 5) {
            for (int sort = 0; sort < 5; sort++) {
                Edges.due(x, 1, "tape", t, sort, 60);
                Edges.due(x, 1, "item", t, 59, 1);
                Edges.due(x, 1, "item", t, 0, 1);
                Edges.due(x, 1, "tape", t, sort, 60);
                Edges.due(x, 0, "read", t, 0);
                Edges.due(x, 0, "read", t, 59);
                Edges.due(x, NO, "read", t, 60);
                Edges.due(x, 1, "tape", t, sort, 1);
                Edges.due(x, 0, "read", t, 0);
                Edges.due(x, NO, "read", t, 1);
                Edges.due(x, 1, "tape", t, sort, 0);
                Edges.due(x, NO, "read", t, 0);
                Edges.due(x, PLACE, "item", t, 0, 0);
            }
        }
        Edges.edge(32, "holds nothing (sort -1: n does not matter): 1");
        for (int n : new int[] {0, 61, -1, MAX, MIN}) {
            Edges.due(x, 1, "tape", 0, 0, 3);
            Edges.due(x, 1, "tape", 0, -1, n);
            Edges.due(x, NOTHING, "item", 0, 0, 0);
            Edges.due(x, NO, "read", 0, 0);
        }
    }

    private static void p33() {
        for (Edges.State s : Edges.STATES) {
            Edges.edge(33, "NONE: tape, whatever the place is");
            for (int t : new int[] {-1, 6, MAX, MIN}) {
                Edges.leaves(s, NONE, "item", t, 0, 1);
                Edges.leaves(s, NONE, "item", t, -1, 1);
            }
        }
        Edges.edge(33, "NOTHING: nothing is there, wherever the place is");
        for (int i : new int[] {0, -1, 60, MAX, MIN}) {
            Edges.leaves(Edges.EMPTY, NOTHING, "item", 0, i, 1);
            Edges.leaves(Edges.SOME, NOTHING, "item", 5, i, 1);
        }
        Edges.edge(33, "PLACE: no such place: below 0, at the length and above");
        for (int t = 0; t < 5; t++) {
            for (int i : new int[] {-1, t + 2, 59, 60, MAX, MIN}) {
                Edges.leaves(Edges.SOME, PLACE, "item", t, i, 1);
            }
            Edges.leaves(Edges.WHOLE, PLACE, "item", t, 60, 1);
            Edges.leaves(Edges.WHOLE, PLACE, "item", t, -1, 1);
        }
        Edges.edge(33, "its lowest bits, as many as an item has: at the edges of each sort");
        long[] vs = {0, 1, -1, 127, 128, -128, -129, 255, 256, 32767, 32768, -32768, -32769, 65535, 65536,
            2147483647L, 2147483648L, -2147483648L, -2147483649L, 4294967295L, 4294967296L, Long.MAX_VALUE,
            Long.MIN_VALUE, Long.MIN_VALUE + 1};
        GatesBent x = new GatesBent();
        for (int sort = 0; sort < 5; sort++) {
            x.tape(sort, sort, 2);
            for (long v : vs) {
                long[] cut = {(byte) v, (short) v, (int) v, v, v != 0 ? 1 : 0};
                Edges.due(x, 1, "item", sort, 1, v);
                Edges.due(x, cut[sort], "read", sort, 1);
            }
            Edges.due(x, 0, "read", sort, 0);
        }
        Edges.edge(33, "booleans: whether v is not 0: a lowest bit of 0, too");
        Edges.due(x, 1, "item", 4, 0, 2);
        Edges.due(x, 1, "read", 4, 0);
        Edges.due(x, 1, "item", 4, 0, 1L << 40);
        Edges.due(x, 1, "read", 4, 0);
        Edges.due(x, 1, "item", 4, 0, 0);
        Edges.due(x, 0, "read", 4, 0);
        Edges.edge(33, "Item 0 and item 59");
        x.tape(5, 3, 60);
        Edges.due(x, 1, "item", 5, 0, 7);
        Edges.due(x, 1, "item", 5, 59, 8);
        Edges.due(x, 7, "read", 5, 0);
        Edges.due(x, 8, "read", 5, 59);
        Edges.due(x, 0, "read", 5, 1);
        Edges.due(x, 0, "read", 5, 58);
    }

    private static void p34() {
        for (Edges.State s : Edges.STATES) {
            Edges.edge(34, "NO: no such TAPE");
            for (int t : new int[] {-1, 6, MAX, MIN}) {
                Edges.leaves(s, NO, "read", t, 0);
            }
        }
        Edges.edge(34, "NO: nothing there");
        for (int i : new int[] {-1, 0, 1, 59, MAX, MIN}) {
            Edges.leaves(Edges.EMPTY, NO, "read", 3, i);
            Edges.leaves(Edges.SOME, NO, "read", 5, i);
        }
        Edges.edge(34, "NO: no such place: below 0, at the length and above");
        for (int t = 0; t < 5; t++) {
            for (int i : new int[] {-1, t + 2, 59, 60, MAX, MIN}) {
                Edges.leaves(Edges.SOME, NO, "read", t, i);
            }
            Edges.leaves(Edges.WHOLE, NO, "read", t, 60);
        }
        Edges.edge(34, "Item 0, and the last");
        for (int t = 0; t < 4; t++) {
            Edges.leaves(Edges.SOME, 7 * t, "read", t, 0);
            Edges.leaves(Edges.SOME, 8 * t + 1, "read", t, t + 1);
        }
        Edges.leaves(Edges.WHOLE, -3, "read", 3, 59);
    }

    private static void p35() {
        for (Edges.State s : Edges.STATES) {
            Edges.edge(35, "NONE: tapes, the one or the other, whatever the rest is");
            for (int t : new int[] {-1, 6, MAX, MIN}) {
                Edges.leaves(s, NONE, "shift", t, 0, 0, 0, 0);
                Edges.leaves(s, NONE, "shift", 0, 0, t, 0, 0);
                Edges.leaves(s, NONE, "shift", 5, -1, t, -1, -1);
            }
        }
        Edges.edge(35, "NOTHING: in the one, the other, both; ahead of CAST and PLACE");
        Edges.leaves(Edges.SOME, NOTHING, "shift", 5, 0, 0, 0, 0);
        Edges.leaves(Edges.SOME, NOTHING, "shift", 0, 0, 5, 0, 0);
        Edges.leaves(Edges.SOME, NOTHING, "shift", 5, 0, 5, 0, 0);
        Edges.leaves(Edges.SOME, NOTHING, "shift", 0, -1, 5, -1, -1);
        Edges.leaves(Edges.EMPTY, NOTHING, "shift", 0, 0, 1, 0, 1);
        Edges.edge(35, "CAST: of unlike sorts, each with each; ahead of PLACE; with n 0, too");
        for (int t = 0; t < 5; t++) {
            for (int u = 0; u < 5; u++) {
                if (t != u) {
                    Edges.leaves(Edges.SOME, CAST, "shift", t, 0, u, 0, 0);
                    Edges.leaves(Edges.SOME, CAST, "shift", t, -1, u, 0, 99);
                } else {
                    Edges.leaves(Edges.SOME, 0, "shift", t, 0, u, 0, 0);
                }
            }
        }
        places();
        shifted();
    }

    /** Two rows of ints, 7 and 5 long. */
    private static final Edges.State TWO_ROWS = new Edges.State("two rows of ints", x -> {
        x.tape(0, 2, 7);
        x.tape(1, 2, 5);
        for (int i = 0; i < 7; i++) {
            x.item(0, i, 10 + i);
            x.item(1, i, 20 + i);
        }
    });

    private static void places() {
        Edges.edge(35, "PLACE: n, i or j is below 0");
        for (int n : new int[] {-1, -7, MIN}) {
            Edges.leaves(TWO_ROWS, PLACE, "shift", 0, 0, 1, 0, n);
            Edges.leaves(TWO_ROWS, PLACE, "shift", 0, n, 1, 0, 1);
            Edges.leaves(TWO_ROWS, PLACE, "shift", 0, 0, 1, n, 1);
            Edges.leaves(TWO_ROWS, PLACE, "shift", 0, n, 1, 0, 0);
            Edges.leaves(TWO_ROWS, PLACE, "shift", 0, 0, 1, n, 0);
            Edges.leaves(TWO_ROWS, PLACE, "shift", 0, 3, 0, 3, n);
        }
        Edges.edge(35, "PLACE: beyond either's end: by one, by the most, where a sum wraps");
        int[][] beyond = {{0, 0, 1, 0, 6}, {0, 3, 1, 0, 5}, {0, 7, 1, 0, 1}, {0, 8, 1, 0, 0}, {0, 0, 1, 6, 0},
            {0, 0, 1, 5, 1}, {0, 0, 1, 1, 5}, {1, 0, 0, 0, 6}, {1, 1, 0, 0, 5}, {1, 0, 0, 3, 5},
            {0, 0, 1, 0, MAX}, {0, MAX, 1, 0, 1}, {0, MAX, 1, 0, MAX}, {0, 0, 1, MAX, 1}, {0, 0, 1, MAX, MAX},
            {0, 1, 1, 1, MAX}, {0, MAX, 1, MAX, 0}, {0, 0, 0, 1, 7}, {0, 1, 0, 0, 7}};
        for (int[] a : beyond) {
            Edges.leaves(TWO_ROWS, PLACE, "shift", a[0], a[1], a[2], a[3], a[4]);
        }
        Edges.edge(35, "n items: none, from and to the very end");
        Edges.leaves(TWO_ROWS, 0, "shift", 0, 7, 1, 5, 0);
        Edges.leaves(TWO_ROWS, 0, "shift", 0, 0, 1, 0, 0);
        Edges.leaves(TWO_ROWS, 0, "shift", 0, 7, 0, 7, 0);
        Edges.edge(35, "a row of none to itself");
        GatesBent x = new GatesBent();
        x.tape(0, 3, 0);
        Edges.due(x, 0, "shift", 0, 0, 0, 0, 0);
        Edges.due(x, PLACE, "shift", 0, 0, 0, 0, 1);
        Edges.due(x, PLACE, "shift", 0, 1, 0, 0, 0);
    }

    private static void shifted() {
        Edges.edge(35, "n items from i on come to another one from j on: just to the end of both: n");
        GatesBent x = TWO_ROWS.made();
        Edges.due(x, 5, "shift", 0, 2, 1, 0, 5);
        dueRow(x, 0, 10, 11, 12, 13, 14, 15, 16);
        dueRow(x, 1, 12, 13, 14, 15, 16);
        GatesBent y = TWO_ROWS.made();
        Edges.due(y, 5, "shift", 1, 0, 0, 2, 5);
        dueRow(y, 0, 10, 11, 20, 21, 22, 23, 24);
        dueRow(y, 1, 20, 21, 22, 23, 24);
        Edges.due(y, 1, "shift", 0, 6, 1, 4, 1);
        Edges.due(y, 1, "shift", 0, 0, 1, 0, 1);
        dueRow(y, 1, 10, 21, 22, 23, 24);
        Edges.edge(35, "(or the same), as they all were before: to the right, to the left, onto themselves");
        GatesBent z = TWO_ROWS.made();
        Edges.due(z, 6, "shift", 0, 0, 0, 1, 6);
        dueRow(z, 0, 10, 10, 11, 12, 13, 14, 15);
        z = TWO_ROWS.made();
        Edges.due(z, 6, "shift", 0, 1, 0, 0, 6);
        dueRow(z, 0, 11, 12, 13, 14, 15, 16, 16);
        z = TWO_ROWS.made();
        Edges.due(z, 7, "shift", 0, 0, 0, 0, 7);
        dueRow(z, 0, 10, 11, 12, 13, 14, 15, 16);
        Edges.edge(35, "60 items, of each sort, to another");
        for (int sort = 0; sort < 5; sort++) {
            GatesBent w = new GatesBent();
            w.tape(2, sort, 60);
            w.tape(5, sort, 60);
            w.item(2, 0, 1);
            w.item(2, 59, -1);
            Edges.due(w, 60, "shift", 2, 0, 5, 0, 60);
            Edges.due(w, 1, "read", 5, 0);
            Edges.due(w, 0, "read", 5, 30);
            Edges.due(w, sort == 4 ? 1 : -1, "read", 5, 59);
        }
    }

    private static void dueRow(GatesBent x, int tape, int... items) {
        for (int i = 0; i < items.length; i++) {
            Edges.due(x, items[i], "read", tape, i);
        }
        Edges.due(x, NO, "read", tape, items.length);
    }

    public static void main(String[] args) {
        p01();
        p02();
        p03();
        p04();
        p05();
        p06();
        p07();
        p08();
        p09and10();
        p11();
        p12();
        p13();
        p14();
        p15();
        p16();
        p17();
        p18();
        p19();
        p20();
        p21();
        p22();
        p23();
        p24();
        p25();
        p26();
        p27();
        p28();
        p29();
        p30();
        p31();
        p32();
        p33();
        p34();
        p35();
        Edges.end("calls", 1, 35);
    }
}
