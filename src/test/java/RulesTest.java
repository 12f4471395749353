import java.io.IOException;
import java.lang.management.ManagementFactory;
import java.lang.reflect.Constructor;
import java.lang.reflect.Field;
import java.lang.reflect.Method;
import java.lang.reflect.Modifier;
import java.nio.file.Files;
import java.nio.file.Path;
import java.util.Arrays;
import java.util.List;
import java.util.Set;
import java.util.TreeSet;
import java.util.regex.Matcher;
import java.util.regex.Pattern;

/** The rules of LANGUAGE.md that can be seen from outside: the face, the words, the sizes, the room. */
public final class RulesTest {
    private static final Path SOURCE = Path.of("src/main/java/GatesBent.java");

    private static final Set<String> FACE = new TreeSet<>(List.of(
        "int comer(int, int, int, int)", "int of(int, int)", "int set(int, int, int)", "int like(int, int, int)",
        "int teach(int, int)", "int forget(int)", "int row(int, int, int)", "int feed(int)", "int house()",
        "int told(int)", "int pass(int)", "int on(int, int)", "int lessons(int, int, int)",
        "int feign(int, int, int)", "int see(int, int, boolean)", "int wrong()", "int can(int, int, int)",
        "long odds(int, int, int)", "long mean(int, int)", "int plan(int, int)", "int ends(int)",
        "int book(int, int)", "int looked()", "int judge(int, int)", "int image()", "int undo()",
        "int act(int, int, int)", "int trace(int)", "int taken(int, int)", "int count(int)",
        "int tape(int, int, int)", "int item(int, int, long)", "long read(int, int)",
        "int shift(int, int, int, int, int)"));

    private static int wrong = 0;

    private static void due(String what, Object got, Object want) {
        if (!got.equals(want)) {
            wrong++;
            System.out.println(what + ": " + got + ", due is " + want);
        }
    }

    private static String signature(Method m) {
        StringBuilder b = new StringBuilder(m.getReturnType().getName()).append(' ').append(m.getName()).append('(');
        for (Class<?> type : m.getParameterTypes()) {
            b.append(b.charAt(b.length() - 1) == '(' ? "" : ", ").append(type.getName());
        }
        return b.append(')').toString();
    }

    private static void face() {
        due("the class's modifiers", Modifier.toString(GatesBent.class.getModifiers()), "public final");
        Set<String> face = new TreeSet<>();
        Set<String> names = new TreeSet<>();
        for (Method m : GatesBent.class.getDeclaredMethods()) {
            if (!Modifier.isPrivate(m.getModifiers())) {
                due("modifiers of " + m.getName(), Modifier.toString(m.getModifiers()), "public");
                face.add(signature(m));
                names.add(m.getName());
            }
        }
        due("the methods", face, FACE);
        Set<String> constants = new TreeSet<>();
        for (Field f : GatesBent.class.getDeclaredFields()) {
            if (!Modifier.isPrivate(f.getModifiers())) {
                constants.add(Modifier.toString(f.getModifiers()) + " " + f.getType() + " " + f.getName());
            } else if (Modifier.isStatic(f.getModifiers())) {
                due("final " + f.getName(), Modifier.isFinal(f.getModifiers()), true);
            }
        }
        due("the constants", constants, new TreeSet<>(List.of("public static final int NONE",
            "public static final int BAD", "public static final int STATE", "public static final int FULL",
            "public static final long NO")));
        Constructor<?>[] made = GatesBent.class.getDeclaredConstructors();
        due("the constructor", Arrays.toString(made), "[public GatesBent()]");
        due("at most twelve classes", GatesBent.class.getDeclaredClasses().length < 12, true);
        for (Class<?> inside : GatesBent.class.getDeclaredClasses()) {
            due("modifiers of " + inside.getName(), Modifier.toString(inside.getModifiers()), "private static final");
            due("twenty fields of " + inside.getName(), inside.getDeclaredFields().length <= 20, true);
            for (Method m : inside.getDeclaredMethods()) {
                due(inside.getName() + "." + m.getName() + " bears a name of the face", names.contains(m.getName()),
                    false);
            }
        }
        for (Method m : GatesBent.class.getDeclaredMethods()) {
            if (Modifier.isPrivate(m.getModifiers())) {
                due("private " + m.getName() + " bears a name of the face", names.contains(m.getName()), false);
            }
            due(m.getName() + " takes at most seven", m.getParameterCount() <= 7, true);
        }
    }

    private static void words() throws IOException {
        String text = Files.readString(SOURCE);
        due("signs 1 to 127", text.chars().allMatch(c -> c < 128), true);
        String code = text.replaceAll("(?s)/\\*.*?\\*/", "").replaceAll("//[^\n]*", "");
        String[] banned = {"\\bthrow", "\\btry\\b", "\\bcatch\\b", "\\bsynchronized\\b", "\\bassert\\b", "->", "::",
            "\\bimport\\b", "\\bpackage\\b", "\\bObject\\b", "static\\s*\\{", "Exact\\b", "\\binstanceof\\b",
            "\\bdouble\\b", "\\bfloat\\b", "\\bequals\\b", "\\bhashCode\\b", "\\btoString\\b", "\\bthis\\)",
            "\\bvolatile\\b", "\\btransient\\b", "\\bnative\\b", "\\bvar\\b", "\\bThread\\b"};
        for (String word : banned) {
            Matcher m = Pattern.compile(word).matcher(code);
            due("stands in the source: " + word, m.find(), false);
        }
        Matcher library = Pattern.compile("\\b(System|Integer|Long|Math|Arrays|List|ArrayList)\\.(\\w+)").matcher(code);
        Set<String> allowed = Set.of("System.arraycopy", "Integer.bitCount", "Math.min", "Math.max", "Long.MIN_VALUE");
        while (library.find()) {
            due("of the library: " + library.group(), allowed.contains(library.group()), true);
        }
    }

    private static void lengths() throws IOException {
        List<String> lines = Files.readAllLines(SOURCE);
        Pattern head = Pattern.compile("^(    |        )(public |private |static |final )*[\\w\\[\\]]+ \\w+\\(.*\\{$");
        for (int from = 0; from < lines.size(); from++) {
            Matcher m = head.matcher(lines.get(from));
            if (!m.matches() || m.group().contains("class ")) {
                continue;
            }
            int to = from;
            while (!lines.get(to).equals(m.group(1) + "}")) {
                to++;
            }
            due("sixty lines at most, from line " + (from + 1), to - from < 60, true);
        }
    }

    /** Every method again and again: what one call makes must stay near nothing. */
    private static void room() {
        com.sun.management.ThreadMXBean threads =
            (com.sun.management.ThreadMXBean) ManagementFactory.getThreadMXBean();
        long most = 0;
        for (int round = 0; round < 3; round++) {
            GatesBent x = new GatesBent();
            for (int k = 0; k < 6; k++) {
                x.comer(k, k, k * 700, k % 4);
                x.teach(k % 4, k);
            }
            for (int c : "help 1 p=1".toCharArray()) {
                x.feed(c);
            }
            x.house();
            long before = threads.getThreadAllocatedBytes(Thread.currentThread().getId());
            for (int k = 0; k < 512; k++) {
                callAll(x, k);
            }
            most = threads.getThreadAllocatedBytes(Thread.currentThread().getId()) - before;
        }
        // a house made anew is some 1,000 bytes, six at most stand
        due("the room that 512 times all calls take is small, and not " + most, most < 10_000, true);
    }

    private static void callAll(GatesBent x, int k) {
        x.of(k % 6, 6);
        x.like(0, 0, 0);
        x.teach(k % 4, k % 6);
        x.told(30 + k % 4);
        x.told(40 + k % 4);
        x.pass(1);
        x.on(60, 0);
        x.lessons(k % 4, 3, 0);
        x.feign(k % 6, k % 4, 0);
        x.see(k % 6, k % 4, true);
        x.wrong();
        x.can(k % 6, k % 2, 0);
        x.odds(k % 6, 0, 0);
        x.mean(60, 0);
        x.plan(0, 0);
        x.ends(0);
        x.book(0, 0);
        x.looked();
        x.image();
        x.undo();
        x.act(k % 6, 2, k);
        x.feed('n');
        x.house();
        x.tape(k % 6, k % 5, 60);
        x.item(k % 6, 3, k);
        x.read(k % 6, 3);
        x.judge(k % 6, 0);
        x.shift(k % 6, 0, k % 6, 1, 9);
    }

    public static void main(String[] args) throws IOException {
        face();
        words();
        lengths();
        room();
        System.out.println(wrong == 0 ? "the rules are kept" : wrong + " rules are not kept");
        if (wrong != 0) {
            System.exit(1);
        }
    }
}
