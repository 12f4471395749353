import java.util.ArrayList;
import java.util.List;
import java.util.function.Consumer;

/** What the tests of edges share. Each edge says its promise and the document's sentence. */
final class Edges {
    static final int NONE = -1, BAD = -2, STATE = -3, FULL = -4, ABSENT = -5;
    static final int NOTHING = -11, CAST = -12, PLACE = -13, SIZE = -14, NO_LIKE = -10001;
    static final int MIN = Integer.MIN_VALUE, MAX = Integer.MAX_VALUE;
    static final long NO = Long.MIN_VALUE;

    /** Numbers that are no gate and no part of a row. */
    static final int[] NO_GATES = {-1, 4, 5, MAX, MIN, MIN + 1};

    /** How objects come to where a test begins: by calls alone, so that any number of them can be made. */
    static final class State {
        final String name;
        final Consumer<GatesBent> run;
        private List<String> everything;

        State(String name, Consumer<GatesBent> run) {
            this.name = name;
            this.run = run;
        }

        GatesBent made() {
            GatesBent x = new GatesBent();
            run.accept(x);
            return x;
        }

        /** Numbers that are no comer there. */
        int[] noComers() {
            int many = made().count(0);
            return new int[] {-1, many, 6, 7, MAX, MIN};
        }
    }

    static final State EMPTY = new State("a new object", x -> { });
    static final State SOME = new State("four comers", Edges::makeSome);
    static final State WHOLE = new State("all that is kept is full", Edges::makeWhole);
    static final State LATE = new State("day 9999", Edges::makeLate);
    static final State[] STATES = {EMPTY, SOME, WHOLE};

    private static int wrong = 0;
    private static int edges = 0;
    private static final int[] edgesOfPromise = new int[36];
    private static String edge = "";

    private Edges() {
    }

    /** TOLD 0, AGED 1, BURGLAR 2, SHAM 3; an image of the first three; something of everything. */
    private static void makeSome(GatesBent x) {
        x.comer(6, 3, 0b101, 1);
        x.comer(4, 9, 0xF0F, 0);
        x.comer(5, 0, 7, 3);
        x.row(0, 1, 5);
        x.row(0, 3, 9);
        x.teach(0, 1);
        x.teach(0, 0);
        x.teach(1, 0);
        x.teach(3, 1);
        house(x, "help 3 v>2;need 9;age 4");
        x.see(2, 3, true);
        x.plan(1, 2);
        x.book(1, 7);
        x.pass(2);
        x.image();
        x.comer(2, 4, 4095, 2);
        x.row(0, 0, 2);
        x.teach(2, 3);
        house(x, "help 2 t<5;hinder 1 g=0;need 8;age 3");
        x.pass(5);
        x.see(0, 1, true);
        x.see(3, 2, false);
        x.plan(0, 0);
        x.plan(1, 12);
        x.plan(2, 0);
        x.book(0, 3);
        x.book(3, 2);
        for (int t = 0; t < 5; t++) {
            x.tape(t, t, t + 2);
            for (int i = 0; i < t + 2; i++) {
                x.item(t, i, 7 * t + i);
            }
        }
        feed(x, "need 7");
        x.act(0, 2, 5);
    }

    /** Kinds 0, 1, 2, 3, 5, 6; an image of half of it; nothing more can come. */
    private static void makeWhole(GatesBent x) {
        for (int p = 0; p < 6; p++) {
            x.comer(p < 4 ? p : p + 1, 9 - p, 0b10011011 * (p + 1), p % 4);
        }
        for (int part = 0; part < 4; part++) {
            x.row(5, part, 9 - part);
        }
        house(x, "need 1");
        house(x, "need 2");
        house(x, "need 3");
        x.see(5, 1, true);
        x.plan(3, 5);
        x.book(5, 0);
        x.pass(3);
        x.image();
        house(x, "need 4");
        house(x, "need 5");
        house(x, "help 9 k=5|d=0;need 8;age 1");
        for (int g = 0; g < 4; g++) {
            x.teach(g, g);
            x.teach(g, g + 1);
            x.teach(g, g + 2);
        }
        for (int k = 1; k < 5; k++) {
            x.see(k, k % 4, k != 2);
        }
        for (int k = 1; k < 10; k++) {
            x.plan(k % 4, k % 4 == 1 ? 23 : 3);
        }
        for (int k = 1; k < 8; k++) {
            x.book(k % 6, k);
        }
        x.pass(4);
        for (int t = 0; t < 6; t++) {
            x.tape(t, t % 5, 60);
            x.item(t, 0, t);
            x.item(t, 59, -t);
        }
        feed(x, "help 11 p=1|p=2|p=3|p=4|p=5|p=6|p=7|p=8|p=9|p=1|p=2|p=3|p=4|p=5|p=6|p=7|p=8|p=9|p=1|p=2|p=3|p=4|p=5|");
        if (x.count(5) != 100) {
            throw new IllegalStateException("THE TEXT isn't full");
        }
        x.act(5, 2, 1);
    }

    /** A comer that was let by each day, one that never was, an AGED one; no more day can go. */
    private static void makeLate(GatesBent x) {
        x.comer(0, 0, 0, 0);
        x.comer(0, 0, 4095, 1);
        x.comer(4, 9, 0, 0);
        x.teach(0, 0);
        for (int k = 0; k < 166; k++) {
            x.pass(60);
        }
        x.pass(39);
    }

    static void feed(GatesBent x, String text) {
        for (int i = 0; i < text.length(); i++) {
            x.feed(text.charAt(i));
        }
    }

    static int house(GatesBent x, String text) {
        feed(x, text);
        return x.house();
    }

    // ---- what is due

    static void edge(int promise, String sentence) {
        edges++;
        edgesOfPromise[promise]++;
        edge = "promise " + promise + ": \"" + sentence + "\"";
    }

    static void due(String call, long got, long want) {
        if (got != want) {
            wrong++;
            System.out.println(edge + ": " + call + " answered " + got + ", due is " + want);
        }
    }

    static void due(GatesBent x, long want, String name, long... a) {
        due(told(name, a), call(x, name, a), want);
    }

    static void dueHouse(GatesBent x, long want, String text) {
        due("house() of '" + text + "'", house(x, text), want);
    }

    /** The call answers so in that state, and leaves all as it was. */
    static void leaves(State state, long want, String name, long... a) {
        String call = told(name, a) + " in the state: " + state.name;
        due(call, call(state.made(), name, a), want);
        same(state, new State(call, state.run.andThen(x -> call(x, name, a))));
    }

    /** All that can be asked is the same in both. */
    static void same(State state, State other) {
        if (state.everything == null) {
            state.everything = everything(state.run);
        }
        List<String> behind = everything(other.run);
        for (int i = 0; i < behind.size(); i++) {
            if (!behind.get(i).equals(state.everything.get(i))) {
                wrong++;
                System.out.println(edge + ": " + other.name + ": " + behind.get(i) + ", and not, as ahead of that, "
                    + state.everything.get(i));
                return;
            }
        }
    }

    /** What is asked so is answered, whatever by, and leaves all as it was. */
    static void asks(State state, String name, long... a) {
        leaves(state, call(state.made(), name, a), name, a);
    }

    static void end(String name, int fromPromise, int toPromise) {
        for (int p = fromPromise; p <= toPromise; p++) {
            if (edgesOfPromise[p] == 0) {
                wrong++;
                System.out.println("promise " + p + " has no edge here");
            }
        }
        System.out.println(name + ": " + edges + " edges, " + (wrong == 0 ? "all as due" : wrong + " answers not"));
        if (wrong != 0) {
            System.exit(1);
        }
    }

    // ---- all that can be asked

    private static GatesBent made(Consumer<GatesBent> run) {
        GatesBent x = new GatesBent();
        run.accept(x);
        return x;
    }

    /** Of several objects made alike, for an object serves 512 calls alone. */
    private static List<String> everything(Consumer<GatesBent> run) {
        List<String> all = new ArrayList<>();
        askNumbers(made(run), all);
        askLikes(made(run), all);
        askOdds(made(run), all);
        for (int half = 0; half < 2; half++) {
            askTapes(made(run), all, 30 * half);
        }
        askWhatLiesBehind(made(run), all);
        return all;
    }

    private static void ask(GatesBent x, List<String> all, String name, long... a) {
        all.add(told(name, a) + " = " + call(x, name, a));
    }

    /** The trace first, for what is asked might have to leave it, too. */
    private static void askNumbers(GatesBent x, List<String> all) {
        for (int i = 0; i < 20; i++) {
            ask(x, all, "trace", i);
        }
        for (int what = 0; what < 7; what++) {
            ask(x, all, "count", what);
        }
        for (int what = 0; what < 44; what++) {
            ask(x, all, "told", what);
        }
        for (int what = 0; what < 24; what++) {
            for (int p = 0; p < 6; p++) {
                ask(x, all, "of", p, what);
            }
        }
        ask(x, all, "wrong");
        ask(x, all, "looked");
        ask(x, all, "ends", 0);
        ask(x, all, "ends", 1);
    }

    private static void askLikes(GatesBent x, List<String> all) {
        for (int p = 0; p < 6; p++) {
            for (int g = 0; g < 4; g++) {
                for (int k = 0; k < 3; k++) {
                    ask(x, all, "like", p, g, k);
                }
                ask(x, all, "feign", p, g, 0);
                ask(x, all, "feign", p, g, 1);
            }
            ask(x, all, "on", 1, 10 + p);
            ask(x, all, "on", 60, 10 + p);
            ask(x, all, "on", 60, 20 + p);
        }
    }

    private static void askOdds(GatesBent x, List<String> all) {
        for (int p = 0; p < 6; p++) {
            for (int g = 0; g < 4; g++) {
                ask(x, all, "odds", p, g, 0);
                ask(x, all, "odds", p, g, 1);
            }
            for (int which = 0; which < 2; which++) {
                ask(x, all, "can", p, which, 0);
                ask(x, all, "can", p, which, 1);
            }
            ask(x, all, "taken", p, 1);
        }
        for (int g = 0; g < 4; g++) {
            for (int k = -1; k < 3; k++) {
                ask(x, all, "lessons", g, 3, k);
            }
        }
        ask(x, all, "mean", 60, 0);
        ask(x, all, "mean", 60, 1);
        ask(x, all, "on", 60, 0);
    }

    private static void askTapes(GatesBent x, List<String> all, int from) {
        for (int t = 0; t < 6; t++) {
            for (int i = from; i < from + 30; i++) {
                ask(x, all, "read", t, i);
            }
            ask(x, all, "judge", t, from);
            ask(x, all, "shift", t, 0, 0, 0, 0);
            ask(x, all, "shift", t, 0, 1, 0, 0);
            ask(x, all, "item", t, 0, 0x1_8000_8080L);
            ask(x, all, "read", t, 0);
        }
    }

    /** The rows, THE TEXT and THE IMAGE, which show only by calls that change something. */
    private static void askWhatLiesBehind(GatesBent x, List<String> all) {
        askRows(x, all);
        ask(x, all, "house");
        ask(x, all, "told", 1);
        ask(x, all, "told", 2);
        ask(x, all, "undo");
        for (int what = 0; what < 22; what++) {
            ask(x, all, "told", what);
        }
        for (int p = 0; p < 6; p++) {
            for (int what = 0; what < 7; what++) {
                ask(x, all, "of", p, what);
            }
        }
        askRows(x, all);
        for (int what = 0; what < 7; what++) {
            ask(x, all, "count", what);
        }
        ask(x, all, "wrong");
        ask(x, all, "looked");
        ask(x, all, "ends", 0);
        ask(x, all, "ends", 1);
    }

    private static void askRows(GatesBent x, List<String> all) {
        for (int p = 0; p < 6; p++) {
            for (int part = 0; part < 4; part++) {
                ask(x, all, "row", p, part, 0);
            }
        }
    }

    // ---- calls by name

    private static String told(String name, long... a) {
        StringBuilder s = new StringBuilder(name).append("(");
        for (int k = 0; k < a.length; k++) {
            s.append(k == 0 ? "" : ", ").append(a[k]);
        }
        return s.append(")").toString();
    }

    static long call(GatesBent x, String name, long... a) {
        int[] n = new int[a.length];
        for (int k = 0; k < a.length; k++) {
            n[k] = (int) a[k];
        }
        switch (name) {
            case "comer": return x.comer(n[0], n[1], n[2], n[3]);
            case "of": return x.of(n[0], n[1]);
            case "set": return x.set(n[0], n[1], n[2]);
            case "like": return x.like(n[0], n[1], n[2]);
            case "teach": return x.teach(n[0], n[1]);
            case "forget": return x.forget(n[0]);
            case "row": return x.row(n[0], n[1], n[2]);
            case "feed": return x.feed(n[0]);
            case "house": return x.house();
            case "told": return x.told(n[0]);
            case "pass": return x.pass(n[0]);
            case "on": return x.on(n[0], n[1]);
            case "lessons": return x.lessons(n[0], n[1], n[2]);
            case "feign": return x.feign(n[0], n[1], n[2]);
            case "see": return x.see(n[0], n[1], n[2] != 0);
            case "wrong": return x.wrong();
            case "can": return x.can(n[0], n[1], n[2]);
            case "odds": return x.odds(n[0], n[1], n[2]);
            case "mean": return x.mean(n[0], n[1]);
            case "plan": return x.plan(n[0], n[1]);
            case "ends": return x.ends(n[0]);
            case "book": return x.book(n[0], n[1]);
            case "looked": return x.looked();
            case "judge": return x.judge(n[0], n[1]);
            case "image": return x.image();
            case "undo": return x.undo();
            case "act": return x.act(n[0], n[1], n[2]);
            case "trace": return x.trace(n[0]);
            case "taken": return x.taken(n[0], n[1]);
            case "count": return x.count(n[0]);
            case "tape": return x.tape(n[0], n[1], n[2]);
            case "item": return x.item(n[0], n[1], a[2]);
            case "read": return x.read(n[0], n[1]);
            case "shift": return x.shift(n[0], n[1], n[2], n[3], n[4]);
            default: throw new IllegalArgumentException(name);
        }
    }
}
