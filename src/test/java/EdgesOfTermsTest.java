/**
 * The edges of what the terms tell, part 1, of walks, gates, kinds, LIKE, teaching and days; and of days
 * beyond 9999, part 2. Each method stands for one sentence of the document, which it tells, with the
 * promise by whose call it shows. (Of THE TEXT and houses: EdgesOfHousesTest.)
 */
public final class EdgesOfTermsTest {
    private static final int COMER = 0, KIN = 1, SHAM = 2, DOG = 3, AGED = 4, BURGLAR = 5, TOLD = 6;

    /** One comer that walks so; gate 0, to which it comes, and gate 1 know the walk 0. */
    private static GatesBent one(int kind, int v, int walk) {
        GatesBent x = new GatesBent();
        x.comer(kind, v, 0, 0);
        x.teach(0, 0);
        x.teach(1, 0);
        x.set(0, 0, walk);
        return x;
    }

    /** A comer that knows no house: how like it walks to 0 at gate 0, by the marks in its walk. */
    private static void dueLike(int want, int kind, int v, int walk, String house) {
        GatesBent x = one(kind, v, walk);
        if (!house.isEmpty()) {
            Edges.dueHouse(x, 0, house);
        }
        Edges.due("like() of kind " + kind + ", v " + v + ", walk " + walk + ", house '" + house + "'",
            x.like(0, 0, 0), want);
    }

    private static void pass(GatesBent x, int days) {
        for (int left = days; left > 0; left -= 60) {
            x.pass(Math.min(left, 60));
        }
    }

    private static void sum() {
        Edges.edge(5, "SUM: how many MARKS are in both, or in neither: none of 12, one, all");
        dueLike(0, COMER, 0, 4095, "");
        dueLike(1, COMER, 0, 4095 - 1, "");
        dueLike(1, COMER, 0, 4095 - 2048, "");
        dueLike(11, COMER, 0, 1, "");
        dueLike(11, COMER, 0, 2048, "");
        dueLike(12, COMER, 0, 0, "");
        GatesBent x = new GatesBent();
        x.comer(COMER, 0, 0b101010101010, 0);
        x.comer(COMER, 0, 0b010101010101, 0);
        x.comer(COMER, 0, 4095, 0);
        x.teach(0, 0);
        Edges.due(x, 12, "like", 0, 0, 0);
        Edges.due(x, 0, "like", 1, 0, 0);
        Edges.due(x, 6, "like", 2, 0, 0);
        Edges.edge(5, "SUM: together (may be below 0)");
        dueLike(-1, COMER, 0, 4095, "hinder 1 p<9");
        dueLike(0, COMER, 0, 0, "hinder 12 p<9");
        dueLike(-1, COMER, 0, 0, "hinder 13 p<9");
        dueLike(-99, COMER, 0, 4095, "hinder 99 p<9");
        dueLike(111, COMER, 0, 0, "help 99 p<9");
        Edges.edge(5, "without a HOUSE there are no CLAUSES");
        dueLike(12, COMER, 9, 0, "");
    }

    private static void kin() {
        Edges.edge(5, "KIN: SUM and v: 0 and 9");
        dueLike(12, KIN, 0, 0, "");
        dueLike(21, KIN, 9, 0, "");
        dueLike(0, KIN, 0, 4095, "");
        dueLike(-90, KIN, 9, 4095, "hinder 99 p<9");
        Edges.edge(5, "COMER: SUM, without v");
        dueLike(12, COMER, 9, 0, "");
    }

    private static void sham() {
        Edges.edge(5, "SHAM: the half (cut toward 0) of SUM, and 4 more than that half");
        dueLike(10, SHAM, 9, 0, "");
        dueLike(9, SHAM, 9, 1, "");
        dueLike(5, SHAM, 9, 4095 - 3, "");
        dueLike(4, SHAM, 9, 4095 - 1, "");
        dueLike(4, SHAM, 9, 4095, "");
        Edges.edge(5, "SHAM: cut toward 0, of a SUM below 0, too");
        dueLike(4, SHAM, 9, 4095, "hinder 1 p<9");
        dueLike(3, SHAM, 9, 4095, "hinder 2 p<9");
        dueLike(3, SHAM, 9, 4095, "hinder 3 p<9");
        dueLike(-45, SHAM, 9, 4095, "hinder 99 p<9");
    }

    private static void dog() {
        Edges.edge(5, "DOG: SUM; 0, if the GATE is not the one to which it comes");
        GatesBent x = one(DOG, 9, 1);
        Edges.due(x, 11, "like", 0, 0, 0);
        Edges.due(x, 0, "like", 0, 1, 0);
        x.set(0, 1, 1);
        Edges.due(x, 0, "like", 0, 0, 0);
        Edges.due(x, 11, "like", 0, 1, 0);
        x.set(0, 1, 3);
        Edges.due(x, 0, "like", 0, 0, 0);
        Edges.due(x, 0, "like", 0, 1, 0);
        Edges.edge(5, "DOG: 0 also where SUM is below 0");
        Edges.dueHouse(x, 0, "hinder 50 p<9");
        Edges.due(x, 0, "like", 0, 0, 0);
        x.set(0, 1, 0);
        Edges.due(x, -39, "like", 0, 0, 0);
        Edges.edge(3, "DOG: at another GATE it is LET BY by a NEED of 0, and not of 1");
        x.set(0, 1, 1);
        Edges.dueHouse(x, 1, "need 0");
        Edges.due(x, 1, "of", 0, 10);
        Edges.dueHouse(x, 2, "need 1");
        Edges.due(x, 0, "of", 0, 10);
        Edges.due(x, 1, "of", 0, 11);
    }

    private static void aged() {
        Edges.edge(5, "AGED: as KIN, less DAY by 10 (cut; 9 at most)");
        int[] days = {0, 1, 9, 10, 19, 20, 79, 80, 89, 90, 99, 100, 109, 1000};
        int[] less = {0, 0, 0, 1, 1, 2, 7, 8, 8, 9, 9, 9, 9, 9};
        for (int k = 0; k < days.length; k++) {
            GatesBent x = one(AGED, 9, 0);
            pass(x, days[k]);
            Edges.due(x, days[k], "told", 0);
            Edges.due(x, 21 - less[k], "like", 0, 0, 0);
        }
        Edges.edge(5, "AGED: with v 0 at last 9 below SUM, below 0, too");
        GatesBent y = one(AGED, 0, 4095);
        pass(y, 90);
        Edges.due(y, -9, "like", 0, 0, 0);
        Edges.edge(5, "AGED: 9 at most on day 9999");
        Edges.due(Edges.LATE.made(), 12, "like", 2, 0, 0);
    }

    private static void burglar() {
        Edges.edge(5, "BURGLAR: as SHAM, and TRIES: 0 and 9");
        GatesBent x = one(BURGLAR, 9, 4095);
        Edges.due(x, 4, "like", 0, 0, 0);
        x.set(0, 2, 1);
        Edges.due(x, 5, "like", 0, 0, 0);
        x.set(0, 2, 9);
        Edges.due(x, 13, "like", 0, 0, 0);
        Edges.dueHouse(x, 0, "hinder 3 p<9");
        Edges.due(x, 12, "like", 0, 0, 0);
        Edges.edge(5, "SHAM: without TRIES");
        GatesBent y = one(SHAM, 9, 4095);
        y.set(0, 2, 9);
        Edges.due(y, 4, "like", 0, 0, 0);
    }

    private static void toldOnes() {
        Edges.edge(5, "TOLD: its ROW (four numbers 0 .. 9; 0 at first) at GATE modulo 4 more");
        GatesBent x = new GatesBent();
        x.comer(TOLD, 9, 0, 2);
        for (int g = 0; g < 4; g++) {
            x.teach(g, 0);
        }
        for (int g = 0; g < 4; g++) {
            Edges.due(x, g == 2 ? 12 : 0, "like", 0, g, 0);
            x.row(0, g, 9 - g);
            Edges.due(x, (g == 2 ? 12 : 0) + 9 - g, "like", 0, g, 0);
        }
        for (int g = 0; g < 4; g++) {
            Edges.due(x, (g == 2 ? 12 : 0) + 9 - g, "like", 0, g, 0);
        }
        Edges.edge(3, "TOLD: at another GATE it is LET BY by its ROW alone: 9, not 8");
        Edges.dueHouse(x, 0, "need 9");
        Edges.due(x, 1, "of", 0, 10);
        Edges.due(x, 0, "of", 0, 11);
        Edges.edge(5, "TOLD: below 0 at its own GATE, 0 and its ROW at another, by hinder");
        Edges.dueHouse(x, 1, "hinder 20 p<9");
        Edges.due(x, 12 - 20 + 7, "like", 0, 2, 0);
        Edges.due(x, 9, "like", 0, 0, 0);
    }

    private static void letsBy() {
        Edges.edge(3, "LETS it BY by NEED or more: 10 without a HOUSE, 9 is less");
        Edges.due(one(COMER, 0, 3), 1, "of", 0, 10);
        Edges.due(one(COMER, 0, 7), 0, "of", 0, 10);
        Edges.edge(3, "LETS it BY by NEED or more: just NEED, and one less, of each NEED");
        for (int marks = 0; marks <= 12; marks++) {
            GatesBent x = one(COMER, 0, (1 << (12 - marks)) - 1);
            Edges.dueHouse(x, 0, "need " + marks);
            Edges.due(x, 1, "of", 0, 10);
            Edges.dueHouse(x, 1, "need " + (marks + 1));
            Edges.due(x, 0, "of", 0, 10);
        }
        Edges.edge(3, "LETS it BY by NEED or more: NEED 0, LIKE 0 and -1");
        GatesBent x = one(COMER, 0, 4095);
        Edges.dueHouse(x, 0, "need 0");
        Edges.due(x, 1, "of", 0, 10);
        Edges.dueHouse(x, 1, "need 0;hinder 1 p<9");
        Edges.due(x, 0, "of", 0, 10);
        Edges.edge(3, "LETS it BY by NEED or more: NEED 99, LIKE 99 and 98");
        GatesBent y = one(COMER, 0, 0);
        Edges.dueHouse(y, 0, "need 99;help 87 p<9");
        Edges.due(y, 1, "of", 0, 10);
        Edges.dueHouse(y, 1, "need 99;help 86 p<9");
        Edges.due(y, 0, "of", 0, 10);
        Edges.edge(3, "LETS it BY, if it KNOWS a WALK: none, with NEED 0, too");
        Edges.dueHouse(y, 2, "need 0");
        Edges.due(y, 1, "of", 0, 10);
        Edges.due(y, 0, "of", 0, 12);
        y.forget(0);
        Edges.due(y, 0, "of", 0, 10);
        Edges.edge(3, "LETS it BY, if it KNOWS a WALK: the first, the second or the third");
        for (int place = 0; place < 3; place++) {
            GatesBent z = new GatesBent();
            z.comer(COMER, 0, 0, 0);
            for (int k = 0; k < 3; k++) {
                z.set(0, 0, k == place ? 0b111 : 0b111111111000);
                z.teach(0, 0);
            }
            z.set(0, 0, 0b111);
            Edges.due(z, 1, "of", 0, 10);
            Edges.due(z, place, "of", 0, 20);
        }
    }

    private static void teach() {
        Edges.edge(6, "GATES each KNOW up to three WALKS, one behind the other (none at first)");
        for (int g = 0; g < 4; g++) {
            GatesBent x = new GatesBent();
            x.comer(COMER, 0, 0, 0);
            for (int k = 0; k < 3; k++) {
                Edges.due(x, -5, "told", 10 + 3 * g + k);
                x.set(0, 0, 100 * g + k);
                Edges.due(x, -5, "teach", g, 0);
                Edges.due(x, 100 * g + k, "told", 10 + 3 * g + k);
            }
            x.set(0, 0, 4095);
            Edges.due("a fourth walk drives one out", x.teach(g, 0) >= 0 ? 1 : 0, 1);
            Edges.due(x, 4095, "told", 12 + 3 * g);
            Edges.due(x, 3, "forget", g);
        }
        Edges.edge(6, "if it KNEW three, the one of those to which fewest MARKS are alike: the 1st, 2nd, 3rd");
        int[][] walks = {{0b1111, 0b11, 0b1}, {0b11, 0b1111, 0b1}, {0b11, 0b1, 0b1111}};
        for (int place = 0; place < 3; place++) {
            GatesBent x = taught(walks[place]);
            x.set(0, 0, 0);
            Edges.due(x, 0b1111, "teach", 0, 0);
            Edges.due(x, walks[place][place == 0 ? 1 : 0], "told", 10);
            Edges.due(x, walks[place][place == 2 ? 1 : 2], "told", 11);
            Edges.due(x, 0, "told", 12);
        }
        Edges.edge(6, "of several the first: of the 1st and 2nd, 2nd and 3rd, 1st and 3rd, of all");
        int[][] same = {{0b11, 0b101, 0b1}, {0b1, 0b101, 0b11}, {0b11, 0b1, 0b101}, {0b100, 0b10, 0b1}};
        int[] goes = {0, 1, 0, 0};
        for (int k = 0; k < 4; k++) {
            GatesBent x = taught(same[k]);
            x.set(0, 0, 0);
            Edges.due(x, same[k][goes[k]], "teach", 0, 0);
        }
        Edges.edge(6, "MARKS alike (in both or in neither): none alike, and all");
        GatesBent x = taught(new int[] {0, 4095, 0});
        x.set(0, 0, 0);
        Edges.due(x, 4095, "teach", 0, 0);
        Edges.edge(6, "it KNOWS the WALK, too, behind all others: also one that it KNOWS already");
        Edges.due(x, 0, "teach", 0, 0);
        for (int k = 10; k < 13; k++) {
            Edges.due(x, 0, "told", k);
        }
        Edges.edge(6, "it KNOWS the WALK as it is when it is TAUGHT");
        x.set(0, 0, 77);
        Edges.due(x, 0, "told", 12);
    }

    private static GatesBent taught(int[] walks) {
        GatesBent x = new GatesBent();
        x.comer(COMER, 0, 0, 0);
        for (int walk : walks) {
            x.set(0, 0, walk);
            x.teach(0, 0);
        }
        return x;
    }

    private static void triesAndPassed() {
        Edges.edge(12, "TRIES (0 .. 9; 0 at first) is 1 more (9 at most)");
        GatesBent x = new GatesBent();
        x.comer(COMER, 0, 0, 0);
        for (int day = 1; day <= 12; day++) {
            Edges.due(x, day, "pass", 1);
            Edges.due(x, Math.min(day, 9), "of", 0, 4);
            Edges.due(x, 0, "of", 0, 5);
        }
        pass(x, 60);
        Edges.due(x, 9, "of", 0, 4);
        Edges.edge(12, "TRIES is 1 more of each other one alone; PASSED of those that are LET BY alone");
        GatesBent y = one(COMER, 0, 0);
        y.comer(COMER, 0, 0, 2);
        Edges.due(y, 60, "pass", 60);
        Edges.due(y, 0, "of", 0, 4);
        Edges.due(y, 60, "of", 0, 5);
        Edges.due(y, 9, "of", 1, 4);
        Edges.due(y, 0, "of", 1, 5);
        Edges.edge(12, "PASSED (0 .. 9999), DAY 9999");
        GatesBent z = Edges.LATE.made();
        Edges.due(z, 9999, "of", 0, 5);
        Edges.due(z, 0, "of", 0, 4);
        Edges.due(z, 0, "of", 1, 5);
        Edges.due(z, 9, "of", 1, 4);
        Edges.due(z, 19998, "told", 4);
        Edges.edge(12, "a BURGLAR that isn't LET BY on one day may be on the next: NEED, by TRIES");
        GatesBent b = one(BURGLAR, 0, 3);
        Edges.due(b, 9, "like", 0, 0, 0);
        Edges.due(b, 1, "pass", 1);
        Edges.due(b, 0, "of", 0, 5);
        Edges.due(b, 1, "of", 0, 4);
        Edges.due(b, 2, "pass", 1);
        Edges.due(b, 1, "of", 0, 5);
        Edges.due(b, 1, "of", 0, 4);
    }

    private static void age() {
        Edges.edge(12, "if AGE is above 0: without a HOUSE, without age, by age 0, 00 no MARK goes");
        GatesBent x = one(COMER, 0, 7);
        Edges.due(x, 60, "pass", 60);
        Edges.due(x, 7, "of", 0, 2);
        String[] none = {"need 1", "age 0", "age 00", "age 1;age 0"};
        for (String text : none) {
            GatesBent y = one(COMER, 0, 7);
            Edges.dueHouse(y, 0, text);
            Edges.due(y, 60, "pass", 60);
            Edges.due(y, 7, "of", 0, 2);
        }
        Edges.edge(12, "if DAY is a multiple of AGE: 0, by any AGE; AGE itself; not one less or more");
        int[] ages = {2, 9, 10, 59, 99};
        for (int age : ages) {
            GatesBent y = one(COMER, 0, 0);
            Edges.dueHouse(y, 0, "age " + age);
            y.pass(1);
            Edges.due(y, 1, "of", 0, 2);
            pass(y, age - 1);
            Edges.due(y, age, "told", 0);
            Edges.due(y, 1, "of", 0, 2);
            y.pass(1);
            Edges.due(y, 1 ^ (1 << (age % 12)), "of", 0, 2);
            y.pass(1);
            Edges.due(y, 1 ^ (1 << (age % 12)), "of", 0, 2);
        }
        Edges.edge(12, "AGE 1: each DAY; the MARK (its number and DAY) modulo 12 comes, or goes");
        GatesBent y = new GatesBent();
        for (int p = 0; p < 6; p++) {
            y.comer(COMER, 0, 0, 0);
        }
        Edges.dueHouse(y, 0, "age 1");
        int[] walks = new int[6];
        for (int day = 0; day < 26; day++) {
            y.pass(1);
            for (int p = 0; p < 6; p++) {
                walks[p] ^= 1 << ((p + day) % 12);
                Edges.due(y, walks[p], "of", p, 2);
            }
        }
        Edges.edge(12, "modulo 12: 11 is the last MARK, then 0");
        GatesBent z = new GatesBent();
        for (int p = 0; p < 6; p++) {
            z.comer(COMER, 0, 0, 0);
        }
        z.pass(6);
        Edges.dueHouse(z, 0, "age 1");
        z.pass(1);
        Edges.due(z, 2048, "of", 5, 2);
        Edges.due(z, 64, "of", 0, 2);
        z.pass(1);
        Edges.due(z, 2049, "of", 5, 2);
        Edges.due(z, 2048 + 1024, "of", 4, 2);
        Edges.edge(12, "of all COMERS, LET BY or not");
        GatesBent w = one(COMER, 0, 0);
        w.comer(COMER, 0, 4095, 3);
        Edges.dueHouse(w, 0, "age 5");
        w.pass(1);
        Edges.due(w, 1, "of", 0, 2);
        Edges.due(w, 4095 - 2, "of", 1, 2);
    }

    private static void theOrderOfADay() {
        Edges.edge(12, "A DAY goes: PASSED or TRIES, Then the MARK, then DAY is 1 more");
        GatesBent x = one(COMER, 0, 0);
        Edges.dueHouse(x, 0, "need 12;age 1");
        x.pass(1);
        Edges.due(x, 1, "of", 0, 5);
        Edges.due(x, 0, "of", 0, 4);
        Edges.due(x, 0, "of", 0, 10);
        x.pass(1);
        Edges.due(x, 1, "of", 0, 5);
        Edges.due(x, 1, "of", 0, 4);
        Edges.edge(12, "of each COMER whose GATE LETS it BY: by the DAY as it is ahead of its being 1 more");
        GatesBent y = one(COMER, 0, 0);
        Edges.dueHouse(y, 0, "help 9 d=0;need 13");
        y.pass(1);
        Edges.due(y, 1, "of", 0, 5);
        y.pass(9);
        Edges.due(y, 1, "of", 0, 5);
        y.pass(1);
        Edges.due(y, 2, "of", 0, 5);
        Edges.edge(12, "AGED on the tenth day still without a less, on the eleventh with one");
        GatesBent z = one(AGED, 0, 0);
        Edges.dueHouse(z, 0, "need 12");
        z.pass(12);
        Edges.due(z, 10, "of", 0, 5);
        Edges.due(z, 2, "of", 0, 4);
    }

    private static void beyond() {
        Edges.edge(13, "what is asked goes on (DAYS, PASSED beyond 9999, too)");
        Edges.leaves(Edges.LATE, 9999, "on", 0, 10);
        Edges.leaves(Edges.LATE, 10000, "on", 1, 10);
        Edges.leaves(Edges.LATE, 10059, "on", 60, 10);
        Edges.leaves(Edges.LATE, 0, "on", 60, 11);
        Edges.leaves(Edges.LATE, 5, "on", 60, 0);
        Edges.edge(13, "the MARK of a DAY beyond 9999");
        GatesBent x = Edges.LATE.made();
        Edges.dueHouse(x, 0, "age 1");
        Edges.due(x, 1 << (9999 % 12), "on", 1, 20);
        Edges.due(x, (1 << (9999 % 12)) + (1 << (10000 % 12)), "on", 2, 20);
        Edges.due(x, 4095 - (1 << (10000 % 12)), "on", 1, 21);
        Edges.edge(3, "OUT beyond DAY 9999");
        GatesBent y = Edges.LATE.made();
        Edges.dueHouse(y, 0, "age 50;need 12");
        Edges.due(y, 2, "of", 0, 6);
        Edges.due(y, 0, "of", 1, 6);
        Edges.dueHouse(y, 1, "need 12");
        Edges.due(y, -5, "of", 0, 6);
        Edges.due(y, -5, "of", 2, 6);
        Edges.edge(20, "MEAN beyond DAY 9999: 20118 by 3");
        Edges.leaves(Edges.LATE, 6706, "mean", 60, 0);
        Edges.leaves(Edges.LATE, 1, "mean", 60, 1);
        Edges.leaves(Edges.LATE, 20000, "mean", 1, 0);
        Edges.leaves(Edges.LATE, 3, "mean", 1, 1);
        Edges.edge(22, "ENDS beyond DAY 9999");
        GatesBent z = Edges.LATE.made();
        for (int k = 0; k < 10; k++) {
            z.plan(0, 0);
        }
        Edges.due(z, 20018, "ends", 0);
        Edges.due(z, 5, "ends", 1);
        Edges.due(z, 19998, "told", 4);
        Edges.due(z, 9999, "told", 0);
    }

    private static void whatIsAskedLeavesAll() {
        Edges.State[] states = {Edges.EMPTY, Edges.SOME, Edges.WHOLE, Edges.LATE};
        for (Edges.State s : states) {
            Edges.edge(13, "All that follows is asked .. and changes nothing: ON");
            for (int what = -1; what < 28; what++) {
                Edges.asks(s, "on", 7, what);
            }
            Edges.edge(3, "what is asked changes nothing: of, OUT, LETS it BY, NEAREST");
            for (int what = -1; what < 25; what++) {
                Edges.asks(s, "of", 0, what);
                Edges.asks(s, "of", 2, what);
            }
            Edges.edge(11, "what is asked changes nothing: told, MASTER");
            for (int what = -1; what < 45; what++) {
                Edges.asks(s, "told", what);
            }
            Edges.edge(14, "what is asked changes nothing: LESSONS");
            for (int n = 1; n < 4; n++) {
                Edges.asks(s, "lessons", n, n, -1);
                Edges.asks(s, "lessons", n, n, 0);
            }
            Edges.edge(15, "what is asked changes nothing: like, FEIGN, WALKS, CAN, ODDS, MEAN, ENDS, taken");
            for (int p = 0; p < 6; p++) {
                Edges.asks(s, "like", p, 0, 0);
                Edges.asks(s, "feign", p, 1, p % 2);
                Edges.asks(s, "can", p, 0, p % 2);
                Edges.asks(s, "can", p, 1, p % 2);
                Edges.asks(s, "odds", p, 2, p % 2);
                Edges.asks(s, "mean", 9 * p, p % 2);
                Edges.asks(s, "ends", p % 2);
                Edges.asks(s, "taken", p, p);
            }
            Edges.edge(17, "what is asked changes nothing: FALSE, LOOKED, JUDGED, trace, count, read");
            Edges.asks(s, "wrong");
            Edges.asks(s, "looked");
            for (int i = -1; i < 7; i++) {
                Edges.asks(s, "judge", 1, i);
                Edges.asks(s, "trace", i);
                Edges.asks(s, "count", i);
                Edges.asks(s, "read", i, 0);
            }
        }
    }

    public static void main(String[] args) {
        sum();
        kin();
        sham();
        dog();
        aged();
        burglar();
        toldOnes();
        letsBy();
        teach();
        triesAndPassed();
        age();
        theOrderOfADay();
        beyond();
        whatIsAskedLeavesAll();
        Edges.end("terms", 12, 13);
    }
}
