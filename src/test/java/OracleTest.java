import java.util.ArrayList;
import java.util.Arrays;
import java.util.List;
import java.util.TreeSet;

/**
 * Many runs of calls on fresh objects, each answer laid beside that of a second program, written from
 * the document's words in another way: houses stay texts, walks are compared mark by mark, all that is
 * asked is carried out on a deep copy, acts are real Java classes, tapes real Java arrays.
 */
public final class OracleTest {
    private static final int RUNS = 700, CALLS = 500;

    // ---- a row of numbers that is the same each time

    private static long seed;

    private static int below(int n) {
        seed = seed * 6364136223846793005L + 1442695040888963407L;
        return (int) ((seed >>> 33) % n);
    }

    private static boolean oneIn(int n) {
        return below(n) == 0;
    }

    // ---- the acts, as real classes

    static class C {
        final int i, v;
        final List<Integer> ran;

        C(int i, int v, List<Integer> ran) {
            this.i = i;
            this.v = v;
            this.ran = ran;
        }

        int walks(int x) { ran.add(10); return x + i; }
        int knocks(int x) { ran.add(11); return walks(x) - v; }
        int tells(int x) { ran.add(12); return knocks(x) * 2; }
    }

    static class Kin extends C {
        Kin(int i, int v, List<Integer> ran) { super(i, v, ran); }
        @Override int knocks(int x) { ran.add(20); return super.knocks(x) ^ 6; }
    }

    static class Sham extends C {
        Sham(int i, int v, List<Integer> ran) { super(i, v, ran); }
        @Override int walks(int x) { ran.add(30); return super.walks(x * 3); }
    }

    static class Dog extends C {
        Dog(int i, int v, List<Integer> ran) { super(i, v, ran); }
        @Override int tells(int x) { ran.add(40); return super.tells(x) + knocks(1); }
    }

    static final class Aged extends Kin {
        Aged(int i, int v, List<Integer> ran) { super(i, v, ran); }
        @Override int walks(int x) { ran.add(50); return -super.walks(x); }
        @Override int knocks(int x) { ran.add(51); return super.knocks(x + 1); }
    }

    static final class Burglar extends Sham {
        Burglar(int i, int v, List<Integer> ran) { super(i, v, ran); }
        @Override int tells(int x) { ran.add(60); return super.tells(x - i); }
    }

    static final class Told extends Dog {
        Told(int i, int v, List<Integer> ran) { super(i, v, ran); }
        @Override int knocks(int x) { ran.add(70); return super.knocks(x) + super.walks(2); }
        @Override int walks(int x) { ran.add(71); return super.walks(x) ^ v; }
    }

    private static C actor(int kind, int i, int v, List<Integer> ran) {
        switch (kind) {
            case 1: return new Kin(i, v, ran);
            case 2: return new Sham(i, v, ran);
            case 3: return new Dog(i, v, ran);
            case 4: return new Aged(i, v, ran);
            case 5: return new Burglar(i, v, ran);
            case 6: return new Told(i, v, ran);
            default: return new C(i, v, ran);
        }
    }

    private static final Class<?>[] KINDS = {
        C.class, Kin.class, Sham.class, Dog.class, Aged.class, Burglar.class, Told.class};

    // ---- houses, as texts

    /** Finds where all ways to read end; the farthest place where one broke off is the FAULT. */
    private static final class Recognizer {
        final String text;
        int farthest = 0;

        Recognizer(String text) {
            this.text = text;
        }

        boolean isHouse() {
            return clauses(0, 10);
        }

        private boolean clauses(int at, int left) {
            boolean is = false;
            for (int end : clause(at)) {
                if (end == text.length()) {
                    return true;
                }
                if (left > 1) {
                    for (int next : one(end, ";")) {
                        is |= clauses(next, left - 1);
                    }
                } else {
                    broke(end);
                }
            }
            return is;
        }

        private TreeSet<Integer> clause(int at) {
            TreeSet<Integer> ends = new TreeSet<>();
            for (String word : new String[] {"help ", "hinder "}) {
                for (int a : word(at, word)) {
                    for (int b : number(a)) {
                        for (int c : one(b, " ")) {
                            ends.addAll(e(c, 0));
                        }
                    }
                }
            }
            for (String word : new String[] {"need ", "age "}) {
                for (int a : word(at, word)) {
                    ends.addAll(number(a));
                }
            }
            return ends;
        }

        private TreeSet<Integer> e(int at, int depth) {
            TreeSet<Integer> ends = t(at, depth);
            for (int end : new ArrayList<>(ends)) {
                for (int next : one(end, "|")) {
                    ends.addAll(e(next, depth));
                }
            }
            return ends;
        }

        private TreeSet<Integer> t(int at, int depth) {
            TreeSet<Integer> ends = f(at, depth);
            for (int end : new ArrayList<>(ends)) {
                for (int next : one(end, "&")) {
                    ends.addAll(t(next, depth));
                }
            }
            return ends;
        }

        private TreeSet<Integer> f(int at, int depth) {
            TreeSet<Integer> ends = new TreeSet<>();
            if (depth < 4) {
                for (int next : one(at, "!")) {
                    ends.addAll(f(next, depth + 1));
                }
                for (int next : one(at, "(")) {
                    for (int end : e(next, depth + 1)) {
                        ends.addAll(one(end, ")"));
                    }
                }
            }
            for (int a : one(at, "pkvgtd")) {
                for (int b : one(a, "<=>")) {
                    ends.addAll(number(b));
                }
            }
            return ends;
        }

        private TreeSet<Integer> number(int at) {
            TreeSet<Integer> ends = one(at, "0123456789");
            for (int end : new ArrayList<>(ends)) {
                ends.addAll(one(end, "0123456789"));
            }
            return ends;
        }

        private TreeSet<Integer> word(int at, String word) {
            TreeSet<Integer> ends = new TreeSet<>();
            ends.add(at);
            for (int k = 0; k < word.length(); k++) {
                TreeSet<Integer> next = new TreeSet<>();
                for (int end : ends) {
                    next.addAll(one(end, word.substring(k, k + 1)));
                }
                ends = next;
            }
            return ends;
        }

        private TreeSet<Integer> one(int at, String signs) {
            TreeSet<Integer> ends = new TreeSet<>();
            if (at < text.length() && signs.indexOf(text.charAt(at)) >= 0) {
                ends.add(at + 1);
            } else {
                broke(at);
            }
            return ends;
        }

        private void broke(int at) {
            farthest = Math.max(farthest, at);
        }
    }

    /** Whether an E holds, split from the outside in. */
    private static boolean holds(String e, int p, int k, int v, int g, int t, int d) {
        int split = outside(e, '|');
        if (split >= 0) {
            return holds(e.substring(0, split), p, k, v, g, t, d)
                | holds(e.substring(split + 1), p, k, v, g, t, d);
        }
        split = outside(e, '&');
        if (split >= 0) {
            return holds(e.substring(0, split), p, k, v, g, t, d)
                & holds(e.substring(split + 1), p, k, v, g, t, d);
        }
        if (e.charAt(0) == '!') {
            return !holds(e.substring(1), p, k, v, g, t, d);
        }
        if (e.charAt(0) == '(') {
            return holds(e.substring(1, e.length() - 1), p, k, v, g, t, d);
        }
        int value = new int[] {p, k, v, g, t, d}["pkvgtd".indexOf(e.charAt(0))];
        int sign = Integer.compare(value, Integer.parseInt(e.substring(2)));
        return sign == "<=>".indexOf(e.charAt(1)) - 1;
    }

    private static int outside(String e, char sign) {
        int open = 0;
        for (int i = 0; i < e.length(); i++) {
            open += e.charAt(i) == '(' ? 1 : e.charAt(i) == ')' ? -1 : 0;
            if (open == 0 && e.charAt(i) == sign) {
                return i;
            }
        }
        return -1;
    }

    // ---- the world

    private static final class Comer {
        int i, kind, v, walk, gate, tries, passed;
        int[] row = new int[4];

        Comer copy() {
            Comer c = new Comer();
            c.i = i;
            c.kind = kind;
            c.v = v;
            c.walk = walk;
            c.gate = gate;
            c.tries = tries;
            c.passed = passed;
            c.row = row.clone();
            return c;
        }
    }

    private static final class World {
        List<List<Integer>> gates = new ArrayList<>();
        List<Comer> comers = new ArrayList<>();
        int day;
        List<int[]> seen = new ArrayList<>(), plan = new ArrayList<>(), book = new ArrayList<>();
        String house = "";

        World() {
            for (int g = 0; g < 4; g++) {
                gates.add(new ArrayList<>());
            }
        }

        World copy() {
            World w = new World();
            w.gates.clear();
            for (List<Integer> gate : gates) {
                w.gates.add(new ArrayList<>(gate));
            }
            for (Comer c : comers) {
                w.comers.add(c.copy());
            }
            w.day = day;
            w.seen.addAll(seen);
            w.plan.addAll(plan);
            w.book.addAll(book);
            w.house = house;
            return w;
        }

        int last(String word, int without) {
            int n = without;
            for (String clause : house.split(";")) {
                if (clause.startsWith(word)) {
                    n = Integer.parseInt(clause.substring(word.length()));
                }
            }
            return n;
        }

        int need() { return last("need ", 10); }
        int age() { return last("age ", 0); }

        int sum(Comer c, int g, int walk) {
            int sum = 0;
            for (int mark = 0; mark < 12; mark++) {
                sum += ((c.walk >> mark) & 1) == ((walk >> mark) & 1) ? 1 : 0;
            }
            for (String clause : house.split(";")) {
                if (clause.startsWith("h")) {
                    String[] parts = clause.split(" ");
                    if (holds(parts[2], c.i, c.kind, c.v, g, c.tries, day % 10)) {
                        sum += (parts[0].equals("help") ? 1 : -1) * Integer.parseInt(parts[1]);
                    }
                }
            }
            return sum;
        }

        int like(Comer c, int g, int walk) {
            int sum = sum(c, g, walk);
            int aged = Math.min(9, day / 10);
            int half = sum < 0 ? -(-sum / 2) : sum / 2;
            int dog = g == c.gate ? sum : 0;
            return new int[] {sum, sum + c.v, half + 4, dog, sum + c.v - aged, half + 4 + c.tries,
                dog + c.row[g % 4]}[c.kind];
        }

        boolean lets(Comer c, int g) {
            for (int walk : gates.get(g)) {
                if (like(c, g, walk) >= need()) {
                    return true;
                }
            }
            return false;
        }

        int who() {
            int bits = 0;
            for (Comer c : comers) {
                bits += lets(c, c.gate) ? 1 << c.i : 0;
            }
            return bits;
        }

        int passed() {
            return comers.stream().mapToInt(c -> c.passed).sum();
        }

        int teach(int g, int walk) {
            List<Integer> gate = gates.get(g);
            int lost = -5;
            if (gate.size() == 3) {
                int out = -1;
                int fewest = 99;
                for (int k = 0; k < 3; k++) {
                    int same = 12 - Integer.bitCount(gate.get(k) ^ walk);
                    if (same < fewest) {
                        fewest = same;
                        out = k;
                    }
                }
                lost = gate.remove(out);
            }
            gate.add(walk);
            return lost;
        }

        World days(int n) {
            for (int k = 0; k < n; k++) {
                int who = who();
                for (Comer c : comers) {
                    if (((who >> c.i) & 1) == 1) {
                        c.passed++;
                    } else {
                        c.tries = Math.min(9, c.tries + 1);
                    }
                }
                if (age() > 0 && day % age() == 0) {
                    for (Comer c : comers) {
                        c.walk ^= 1 << ((c.i + day) % 12);
                    }
                }
                day++;
            }
            return this;
        }

        int howManyAt(int g) {
            return (int) comers.stream().filter(c -> lets(c, g)).count();
        }
    }

    private World w = new World();
    private World kept;
    private final StringBuilder text = new StringBuilder();
    private int houses;
    private List<Integer> ran = new ArrayList<>();
    private final Object[] tapes = new Object[6];

    private boolean in(int n, int a, int b) { return n >= a && n <= b; }
    private boolean isComer(int c) { return c >= 0 && c < w.comers.size(); }
    private boolean isGate(int g) { return in(g, 0, 3); }

    int comer(int kind, int v, int walk, int gate) {
        if (!in(kind, 0, 6) || !isGate(gate)) return -1;
        if (!in(v, 0, 9) || !in(walk, 0, 4095)) return -2;
        if (w.comers.size() == 6) return -4;
        Comer c = new Comer();
        c.i = w.comers.size();
        c.kind = kind;
        c.v = v;
        c.walk = walk;
        c.gate = gate;
        w.comers.add(c);
        return c.i;
    }

    int of(int comer, int what) {
        if (!isComer(comer)) return -1;
        Comer c = w.comers.get(comer);
        if (in(what, 10, 13)) return w.lets(c, what - 10) ? 1 : 0;
        if (in(what, 20, 23)) {
            List<Integer> gate = w.gates.get(what - 20);
            int best = -5;
            for (int k = 0; k < gate.size(); k++) {
                if (best == -5 || w.like(c, what - 20, gate.get(k)) > w.like(c, what - 20, gate.get(best))) {
                    best = k;
                }
            }
            return best;
        }
        if (what == 6) {
            for (int n = 0; n <= 60; n++) {
                if (((w.copy().days(n).who() >> comer) & 1) == 0) return n;
            }
            return -5;
        }
        if (!in(what, 0, 6)) return -1;
        return new int[] {c.kind, c.v, c.walk, c.gate, c.tries, c.passed}[what];
    }

    int set(int comer, int what, int n) {
        if (!isComer(comer) || !in(what, 0, 2)) return -1;
        if (!in(n, 0, new int[] {4095, 3, 9}[what])) return -2;
        int was = of(comer, what + 2);
        Comer c = w.comers.get(comer);
        if (what == 0) c.walk = n;
        if (what == 1) c.gate = n;
        if (what == 2) c.tries = n;
        return was;
    }

    int like(int comer, int gate, int k) {
        if (!isComer(comer) || !isGate(gate) || !in(k, 0, w.gates.get(gate).size() - 1)) return -10001;
        return w.like(w.comers.get(comer), gate, w.gates.get(gate).get(k));
    }

    int teach(int gate, int comer) {
        return !isGate(gate) || !isComer(comer) ? -1 : w.teach(gate, w.comers.get(comer).walk);
    }

    int forget(int gate) {
        if (!isGate(gate)) return -1;
        int knew = w.gates.get(gate).size();
        w.gates.get(gate).clear();
        return knew;
    }

    int row(int comer, int part, int n) {
        if (!isComer(comer) || !in(part, 0, 3)) return -1;
        if (!in(n, 0, 9)) return -2;
        Comer c = w.comers.get(comer);
        if (c.kind != 6) return -3;
        int was = c.row[part];
        c.row[part] = n;
        return was;
    }

    int feed(int sign) {
        if (!in(sign, 0, 127)) return -2;
        if (text.length() == 100) return -4;
        return text.append((char) sign).length();
    }

    int house() {
        if (houses == 6) return -4;
        String all = text.toString();
        text.setLength(0);
        Recognizer r = new Recognizer(all);
        if (!r.isHouse()) return -10 - r.farthest;
        w.house = all;
        return houses++;
    }

    int told(int what) {
        if (in(what, 10, 21)) {
            List<Integer> gate = w.gates.get((what - 10) / 3);
            int k = (what - 10) % 3;
            return k < gate.size() ? gate.get(k) : -5;
        }
        if (in(what, 30, 33) || in(what, 40, 43)) {
            int g = what % 10;
            World alone = w.copy();
            int best = -1;
            int most = -1;
            for (int walk = 0; walk < 4096; walk++) {
                alone.gates.get(g).clear();
                alone.gates.get(g).add(walk);
                int n = alone.howManyAt(g);
                if (n > most) {
                    most = n;
                    best = walk;
                }
            }
            return what < 40 ? best : most;
        }
        switch (what) {
            case 0: return w.day;
            case 1: return w.need();
            case 2: return w.age();
            case 3: return w.who();
            case 4: return w.passed();
            default: return -1;
        }
    }

    int pass(int n) {
        if (!in(n, 0, 60)) return -2;
        if (w.day + n > 9999) return -3;
        return w.days(n).day;
    }

    int on(int n, int what) {
        boolean isPassed = isComer(what - 10);
        boolean isWalk = isComer(what - 20);
        if (what != 0 && !isPassed && !isWalk) return -1;
        if (!in(n, 0, 60)) return -2;
        World then = w.copy().days(n);
        if (what == 0) return then.who();
        return isPassed ? then.comers.get(what - 10).passed : then.comers.get(what - 20).walk;
    }

    private int best;
    private int[] bestRow;

    private void tryLessons(int gate, int[] row, int k) {
        if (k == row.length) {
            World then = w.copy();
            for (int c : row) {
                then.teach(gate, then.comers.get(c).walk);
            }
            int n = then.howManyAt(gate);
            if (n > best) {
                best = n;
                bestRow = row.clone();
            }
            return;
        }
        for (int c = 0; c < w.comers.size(); c++) {
            row[k] = c;
            tryLessons(gate, row, k + 1);
        }
    }

    int lessons(int gate, int n, int k) {
        if (!isGate(gate) || !in(k, -1, 2)) return -1;
        if (!in(n, 1, 3)) return -2;
        best = -1;
        bestRow = null;
        tryLessons(gate, new int[n], 0);
        if (k == -1) return Math.max(best, 0);
        return bestRow == null || k >= n ? -5 : bestRow[k];
    }

    int feign(int comer, int gate, int what) {
        if (!isComer(comer) || !isGate(gate) || !in(what, 0, 1)) return -1;
        for (int n = 0; n <= 12; n++) {
            for (int walk = 0; walk < 4096; walk++) {
                Comer c = w.comers.get(comer).copy();
                if (Integer.bitCount(c.walk ^ walk) == n) {
                    c.walk = walk;
                    if (w.lets(c, gate)) return what == 0 ? n : walk;
                }
            }
        }
        return -5;
    }

    int see(int comer, int gate, boolean isLet) {
        if (comer == -1) {
            w.seen.clear();
            return 0;
        }
        if (!isComer(comer) || !isGate(gate)) return -1;
        if (w.seen.size() == 5) return -4;
        w.seen.add(new int[] {comer, gate, isLet ? 1 : 0});
        return w.seen.size();
    }

    int wrong() {
        for (int k = 0; k < w.seen.size(); k++) {
            int[] s = w.seen.get(k);
            if (w.lets(w.comers.get(s[0]), s[1]) != (s[2] == 1)) return k;
        }
        return -5;
    }

    int can(int comer, int which, int what) {
        if (!isComer(comer) || !in(which, 0, 1) || !in(what, 0, 1)) return -1;
        int n = 0;
        int least = -5;
        for (int k = 0; k < (which == 0 ? 4096 : 10); k++) {
            Comer c = w.comers.get(comer).copy();
            if (which == 0) c.walk = k; else c.v = k;
            boolean isSo = true;
            for (int[] s : w.seen) {
                isSo &= s[0] != comer || w.lets(c, s[1]) == (s[2] == 1);
            }
            if (isSo) {
                n++;
                if (least == -5) least = k;
            }
        }
        return what == 0 ? n : least;
    }

    private static long fraction(int a, int b, int part) {
        int x = a;
        int y = b;
        while (y != 0) {
            int z = x % y;
            x = y;
            y = z;
        }
        return part == 0 ? a / x : b / x;
    }

    long odds(int comer, int gate, int part) {
        if (!isComer(comer) || !isGate(gate) || !in(part, 0, 1)) return Long.MIN_VALUE;
        int n = 0;
        for (int mark = 0; mark < 12; mark++) {
            Comer c = w.comers.get(comer).copy();
            c.walk ^= 1 << mark;
            n += w.lets(c, gate) ? 1 : 0;
        }
        return fraction(n, 12, part);
    }

    long mean(int n, int part) {
        if (!in(n, 0, 60) || !in(part, 0, 1) || w.comers.isEmpty()) return Long.MIN_VALUE;
        return fraction(w.copy().days(n).passed(), w.comers.size(), part);
    }

    int plan(int what, int n) {
        if (what == -1) {
            w.plan.clear();
            return 0;
        }
        if (!in(what, 0, 3)) return -1;
        if (what == 1 && (n < 0 || !isGate(n / 10) || !isComer(n % 10))) return -1;
        if (what == 2 && !isGate(n)) return -1;
        if (what == 3 && !isComer(n)) return -1;
        if (w.plan.size() == 10) return -4;
        w.plan.add(new int[] {what, n});
        return w.plan.size();
    }

    int ends(int what) {
        if (!in(what, 0, 1)) return -1;
        World then = w.copy();
        for (int[] p : w.plan) {
            if (p[0] == 0) then.days(1);
            if (p[0] == 1) then.teach(p[1] / 10, then.comers.get(p[1] % 10).walk);
            if (p[0] == 2) then.gates.get(p[1]).clear();
            if (p[0] == 3) then.comers.get(p[1]).tries = 0;
        }
        return what == 0 ? then.passed() : then.who();
    }

    int book(int comer, int passed) {
        if (comer == -1) {
            w.book.clear();
            return 0;
        }
        if (!isComer(comer)) return -1;
        if (!in(passed, 0, 9999)) return -2;
        if (w.book.size() == 8) return -4;
        w.book.add(new int[] {comer, passed});
        return w.book.size();
    }

    int looked() {
        for (int k = 0; k < w.book.size(); k++) {
            int[] b = w.book.get(k);
            if (w.comers.get(b[0]).passed != b[1]) return k;
        }
        return -5;
    }

    int judge(int tape, int i) {
        if (!in(tape, 0, 5)) return -1;
        int looked = 0;
        try {
            short[] row = (short[]) tapes[tape];
            for (Comer c : w.comers) {
                if (row[i + looked] != c.walk) return c.i;
                looked++;
            }
            return -5;
        } catch (ClassCastException e) {
            return -12;
        } catch (NullPointerException | ArrayIndexOutOfBoundsException e) {
            return 100 + looked;
        }
    }

    int image() {
        kept = w.copy();
        return w.comers.size();
    }

    int undo() {
        if (kept == null) return -3;
        w = kept.copy();
        return w.comers.size();
    }

    int act(int comer, int act, int x) {
        ran = new ArrayList<>();
        if (!isComer(comer) || !in(act, 0, 2)) return 0;
        Comer c = w.comers.get(comer);
        C one = actor(c.kind, c.i, c.v, ran);
        return act == 0 ? one.walks(x) : act == 1 ? one.knocks(x) : one.tells(x);
    }

    int trace(int i) {
        return in(i, 0, Math.min(20, ran.size()) - 1) ? ran.get(i) : -1;
    }

    int taken(int comer, int k) {
        if (!in(k, 0, 6)) return -2;
        if (!isComer(comer)) return -11;
        int kind = w.comers.get(comer).kind;
        return KINDS[k].isAssignableFrom(KINDS[kind]) ? kind : -12;
    }

    int count(int what) {
        if (!in(what, 0, 6)) return -2;
        return new int[] {w.comers.size(), houses, w.seen.size(), w.plan.size(), w.book.size(),
            text.length(), ran.size()}[what];
    }

    int tape(int tape, int sort, int n) {
        if (!in(tape, 0, 5)) return -1;
        if (sort == -1) {
            tapes[tape] = null;
            return 1;
        }
        if (!in(sort, 0, 4) || n > 60) return -2;
        if (n < 0) return -14;
        tapes[tape] = sort == 0 ? new byte[n] : sort == 1 ? new short[n] : sort == 2 ? new int[n]
            : sort == 3 ? new long[n] : new boolean[n];
        return 1;
    }

    int item(int tape, int i, long v) {
        if (!in(tape, 0, 5)) return -1;
        if (tapes[tape] == null) return -11;
        try {
            if (tapes[tape] instanceof byte[] a) a[i] = (byte) v;
            if (tapes[tape] instanceof short[] a) a[i] = (short) v;
            if (tapes[tape] instanceof int[] a) a[i] = (int) v;
            if (tapes[tape] instanceof long[] a) a[i] = v;
            if (tapes[tape] instanceof boolean[] a) a[i] = v != 0;
            return 1;
        } catch (ArrayIndexOutOfBoundsException e) {
            return -13;
        }
    }

    long read(int tape, int i) {
        if (!in(tape, 0, 5) || tapes[tape] == null) return Long.MIN_VALUE;
        try {
            if (tapes[tape] instanceof boolean[] a) return a[i] ? 1 : 0;
            return java.lang.reflect.Array.getLong(tapes[tape], i);
        } catch (ArrayIndexOutOfBoundsException e) {
            return Long.MIN_VALUE;
        }
    }

    int shift(int tape, int i, int other, int j, int n) {
        if (!in(tape, 0, 5) || !in(other, 0, 5)) return -1;
        try {
            System.arraycopy(tapes[tape], i, tapes[other], j, n);
            return n;
        } catch (NullPointerException e) {
            return -11;
        } catch (ArrayStoreException e) {
            return -12;
        } catch (IndexOutOfBoundsException e) {
            return -13;
        }
    }

    // ---- the calls of a run

    private static final int[] ODD_ONES = {-1, -2, 7, 8, 9, 10, 60, 61, 63, 64, 99, 100, 127, 128, 4095, 4096,
        9999, 10000, Integer.MAX_VALUE, Integer.MIN_VALUE, Integer.MIN_VALUE + 12, Integer.MAX_VALUE - 3};

    private static int near(int below) {
        return oneIn(25) ? ODD_ONES[below(ODD_ONES.length)] : oneIn(12) ? below(below + 3) - 1 : below(below);
    }

    private static String e(int depth) {
        StringBuilder b = new StringBuilder();
        int parts = 1 + (oneIn(3) ? 1 + below(2) : 0);
        for (int k = 0; k < parts; k++) {
            b.append(k == 0 ? "" : oneIn(2) ? "|" : "&");
            int way = below(6);
            if (way < 3 || depth == 5) {
                b.append("pkvgtd".charAt(below(6))).append("<=>".charAt(below(3)));
                b.append(oneIn(5) ? "" + below(10) + below(10) : "" + below(7));
            } else if (way == 3) {
                b.append('!').append(single(depth + 1));
            } else {
                b.append('(').append(e(depth + 1)).append(')');
            }
        }
        return b.toString();
    }

    private static String single(int depth) {
        String all = e(depth);
        return outside(all, '|') >= 0 || outside(all, '&') >= 0 ? "(" + all + ")" : all;
    }

    private static String number() {
        return oneIn(3) ? "" + below(10) + below(10) : "" + below(10);
    }

    private static String clause() {
        switch (below(5)) {
            case 0: return "need " + number();
            case 1: return "age " + (oneIn(3) ? number() : "" + below(4));
            case 2: return "hinder " + number() + " " + e(0);
            default: return "help " + number() + " " + e(0);
        }
    }

    private static String houseText() {
        StringBuilder b = new StringBuilder(clause());
        int more = oneIn(6) ? 9 + below(3) : below(5);
        for (int k = 0; k < more; k++) {
            b.append(';').append(more > 8 ? (oneIn(2) ? "age " : "need ") + number() : clause());
        }
        if (oneIn(3) && b.length() > 0) {
            String signs = "helpindragspkvgt <=>!&|();0123456789x\0\177";
            int at = below(b.length());
            char sign = signs.charAt(below(signs.length()));
            switch (below(4)) {
                case 0: b.setCharAt(at, sign); break;
                case 1: b.insert(at, sign); break;
                case 2: b.deleteCharAt(at); break;
                default: b.setLength(at); break;
            }
        }
        return b.toString();
    }

    private static int bad = 0;
    private static StringBuilder log;

    private static void lay(String call, int[] args, long got, long due) {
        log.append(call).append(Arrays.toString(args)).append(" = ").append(got).append('\n');
        if (got != due) {
            bad++;
            if (bad == 1) {
                System.out.println(log);
            }
            System.out.println("run " + run + ": " + call + Arrays.toString(args) + " answered " + got
                + ", due is " + due);
        }
    }

    private static int run;

    private static final String[] CALLED = {"comer", "of", "set", "like", "teach", "forget", "row", "feed",
        "house", "told", "pass", "on", "lessons", "feign", "see", "wrong", "can", "odds", "mean", "plan",
        "ends", "book", "looked", "judge", "image", "undo", "act", "trace", "taken", "count", "tape", "item",
        "read", "shift"};
    private static final int[][] RANGES = {{7, 10, 4096, 4}, {6, 24}, {6, 3, 10}, {6, 4, 3}, {4, 6}, {4},
        {6, 4, 10}, {128}, {}, {44}, {61}, {61, 26}, {4, 4, 3}, {6, 4, 2}, {6, 4, 2}, {}, {6, 2, 2},
        {6, 4, 2}, {61, 2}, {4, 40}, {2}, {6, 12}, {}, {6, 12}, {}, {}, {6, 3, 100}, {14}, {6, 7}, {7},
        {6, 5, 20}, {6, 20, 9999}, {6, 20}, {6, 9, 6, 9, 9}};
    /** How often each is called, beside the others. */
    private static final int[] WEIGHTS = {3, 6, 3, 4, 5, 1, 3, 0, 2, 5, 3, 4, 2, 3, 4, 3, 3, 4, 3, 4,
        3, 3, 2, 2, 1, 1, 4, 4, 2, 2, 3, 4, 3, 3};

    private static void feedAll(GatesBent x, OracleTest o, String s) {
        for (int k = 0; k < s.length(); k++) {
            lay("feed", new int[] {s.charAt(k)}, x.feed(s.charAt(k)), o.feed(s.charAt(k)));
        }
    }

    private static int call(GatesBent x, OracleTest o, int which) {
        int[] a = new int[RANGES[which].length];
        for (int k = 0; k < a.length; k++) {
            a[k] = near(RANGES[which][k]);
        }
        String name = CALLED[which];
        int n = 1;
        switch (name) {
            case "comer":
                a[2] = oneIn(4) ? a[2] : below(3) == 0 ? 1365 ^ (1 << below(12)) : a[2];
                lay(name, a, x.comer(a[0], a[1], a[2], a[3]), o.comer(a[0], a[1], a[2], a[3]));
                break;
            case "of": lay(name, a, x.of(a[0], a[1]), o.of(a[0], a[1])); break;
            case "set":
                if (a[1] == 0 && !oneIn(4)) a[2] = below(4096);
                if (a[1] == 1 && !oneIn(4)) a[2] = below(4);
                lay(name, a, x.set(a[0], a[1], a[2]), o.set(a[0], a[1], a[2]));
                break;
            case "like": lay(name, a, x.like(a[0], a[1], a[2]), o.like(a[0], a[1], a[2])); break;
            case "teach": lay(name, a, x.teach(a[0], a[1]), o.teach(a[0], a[1])); break;
            case "forget": lay(name, a, x.forget(a[0]), o.forget(a[0])); break;
            case "row": lay(name, a, x.row(a[0], a[1], a[2]), o.row(a[0], a[1], a[2])); break;
            case "house":
                String s = houseText();
                if (!oneIn(20)) {
                    feedAll(x, o, s);
                    n += s.length();
                }
                lay("house", a, x.house(), o.house());
                break;
            case "told": lay(name, a, x.told(a[0]), o.told(a[0])); break;
            case "pass": lay(name, a, x.pass(a[0]), o.pass(a[0])); break;
            case "on": lay(name, a, x.on(a[0], a[1]), o.on(a[0], a[1])); break;
            case "lessons":
                a[2]--;
                lay(name, a, x.lessons(a[0], a[1], a[2]), o.lessons(a[0], a[1], a[2]));
                break;
            case "feign": lay(name, a, x.feign(a[0], a[1], a[2]), o.feign(a[0], a[1], a[2])); break;
            case "see": lay(name, a, x.see(a[0], a[1], a[2] == 1), o.see(a[0], a[1], a[2] == 1)); break;
            case "wrong": lay(name, a, x.wrong(), o.wrong()); break;
            case "can": lay(name, a, x.can(a[0], a[1], a[2]), o.can(a[0], a[1], a[2])); break;
            case "odds": lay(name, a, x.odds(a[0], a[1], a[2]), o.odds(a[0], a[1], a[2])); break;
            case "mean": lay(name, a, x.mean(a[0], a[1]), o.mean(a[0], a[1])); break;
            case "plan": lay(name, a, x.plan(a[0], a[1]), o.plan(a[0], a[1])); break;
            case "ends": lay(name, a, x.ends(a[0]), o.ends(a[0])); break;
            case "book":
                if (oneIn(2)) a[1] = Math.max(0, o.of(a[0], 5));
                lay(name, a, x.book(a[0], a[1]), o.book(a[0], a[1]));
                break;
            case "looked": lay(name, a, x.looked(), o.looked()); break;
            case "judge":
                n += fillTape(x, o, a);
                lay(name, a, x.judge(a[0], a[1]), o.judge(a[0], a[1]));
                break;
            case "image": lay(name, a, x.image(), o.image()); break;
            case "undo": lay(name, a, x.undo(), o.undo()); break;
            case "act":
                if (oneIn(9)) a[2] = (int) (seed >>> 20);
                lay(name, a, x.act(a[0], a[1], a[2]), o.act(a[0], a[1], a[2]));
                break;
            case "trace": lay(name, a, x.trace(a[0]), o.trace(a[0])); break;
            case "taken": lay(name, a, x.taken(a[0], a[1]), o.taken(a[0], a[1])); break;
            case "count": lay(name, a, x.count(a[0]), o.count(a[0])); break;
            case "tape": lay(name, a, x.tape(a[0], a[1], a[2]), o.tape(a[0], a[1], a[2])); break;
            case "item":
                long v = oneIn(2) ? seed >> below(40) : a[2];
                lay(name + " " + v, a, x.item(a[0], a[1], v), o.item(a[0], a[1], v));
                break;
            case "read": lay(name, a, x.read(a[0], a[1]), o.read(a[0], a[1])); break;
            default:
                lay(name, a, x.shift(a[0], a[1], a[2], a[3], a[4]), o.shift(a[0], a[1], a[2], a[3], a[4]));
                break;
        }
        return n;
    }

    /** Now and then a row of shorts with the walks as they are, so that judging goes far. */
    private static int fillTape(GatesBent x, OracleTest o, int[] a) {
        if (oneIn(2) || a[0] < 0 || a[0] > 5) {
            return 0;
        }
        int at = below(3);
        int length = at + below(o.w.comers.size() + 2);
        lay("tape", new int[] {a[0], 1, length}, x.tape(a[0], 1, length), o.tape(a[0], 1, length));
        for (Comer c : o.w.comers) {
            int walk = oneIn(9) ? c.walk ^ 4096 : c.walk;
            lay("item", new int[] {a[0], at + c.i, walk}, x.item(a[0], at + c.i, walk),
                o.item(a[0], at + c.i, walk));
        }
        if (!oneIn(4)) {
            a[1] = at;
        }
        return 1 + o.w.comers.size();
    }

    public static void main(String[] args) {
        int weight = Arrays.stream(WEIGHTS).sum();
        int[] answered = new int[CALLED.length];
        for (run = 0; run < RUNS && bad == 0; run++) {
            seed = run * 7919L + 13;
            log = new StringBuilder();
            GatesBent x = new GatesBent();
            OracleTest o = new OracleTest();
            for (int c = below(7); c > 0; c--) {
                call(x, o, 0);
            }
            for (int n = 0; n < CALLS - 120 && bad == 0;) {
                int which = -1;
                for (int at = below(weight); at >= 0; at -= WEIGHTS[which]) {
                    which++;
                }
                n += call(x, o, which);
                answered[which]++;
            }
        }
        for (int k = 0; k < CALLED.length; k++) {
            if (answered[k] == 0 && WEIGHTS[k] > 0) {
                bad++;
                System.out.println(CALLED[k] + " was never called");
            }
        }
        System.out.println(bad == 0 ? "all answers are as the second program's"
            : bad + " answers are not as the second program's");
        if (bad != 0) {
            System.exit(1);
        }
    }
}
