import com.sun.source.tree.*;
import com.sun.source.util.JavacTask;
import com.sun.source.util.TreePath;
import com.sun.source.util.TreePathScanner;
import com.sun.source.util.Trees;
import java.io.IOException;
import java.util.ArrayDeque;
import java.util.ArrayList;
import java.util.Deque;
import java.util.EnumSet;
import java.util.List;
import java.util.Map;
import java.util.Set;
import java.util.TreeMap;
import java.util.TreeSet;
import javax.lang.model.element.Element;
import javax.lang.model.element.ElementKind;
import javax.lang.model.element.ExecutableElement;
import javax.lang.model.element.Modifier;
import javax.lang.model.element.TypeElement;
import javax.lang.model.type.ArrayType;
import javax.lang.model.type.TypeKind;
import javax.lang.model.type.TypeMirror;
import javax.tools.JavaCompiler;
import javax.tools.StandardJavaFileManager;
import javax.tools.ToolProvider;

/**
 * LANGUAGE.md rule by rule, by the source's own tree as javac reads it. RulesTest has what shows from
 * outside: the face (rule 1) and the room that calls take (rule 12).
 */
public final class RulesOfSourceTest {
    private static final String SOURCE = "src/main/java/GatesBent.java";
    private static final int DEEPEST = 8, LINES = 60, PARAMETERS = 7, CLASSES = 12, FIELDS = 20;

    private static final Set<Tree.Kind> BANNED = EnumSet.of(
        Tree.Kind.LAMBDA_EXPRESSION, Tree.Kind.MEMBER_REFERENCE,
        Tree.Kind.THROW, Tree.Kind.TRY, Tree.Kind.CATCH, Tree.Kind.SYNCHRONIZED, Tree.Kind.ASSERT,
        Tree.Kind.IMPORT, Tree.Kind.PACKAGE, Tree.Kind.ANNOTATION, Tree.Kind.SWITCH_EXPRESSION, Tree.Kind.YIELD);

    /** What the class needs of the library of rule 4; a name more is asked for here first. */
    private static final Set<String> LIBRARY = Set.of(
        "java.lang.String.length", "java.lang.String.charAt", "java.lang.Integer.bitCount",
        "java.lang.Math.min", "java.lang.Math.max", "java.lang.System.arraycopy");

    /** What may call itself (rule 8), each with a depth among its arguments. */
    private static final Set<String> RECURSIVE = Set.of(
        "Reader.readEither", "Reader.readFactor", "GatesBent.walks", "GatesBent.knocks", "GatesBent.tells");

    private static int wrong = 0;
    private static int looked = 0;

    private static final Map<String, Set<String>> calls = new TreeMap<>();
    private static final Set<String> publicNames = new TreeSet<>();
    private static final Map<String, ExecutableElement> methods = new TreeMap<>();

    private static void holds(int rule, String what, boolean isSo) {
        looked++;
        if (!isSo) {
            wrong++;
            System.out.println("rule " + rule + ": " + what);
        }
    }

    private static final class Reading extends TreePathScanner<Void, Void> {
        private final Trees trees;
        private final CompilationUnitTree unit;
        private final Deque<String> within = new ArrayDeque<>();
        private int classes = 0;
        private int loops = 0;

        Reading(Trees trees, CompilationUnitTree unit) {
            this.trees = trees;
            this.unit = unit;
        }

        private String at(Tree tree) {
            long place = trees.getSourcePositions().getStartPosition(unit, tree);
            return "line " + unit.getLineMap().getLineNumber(place) + ": ";
        }

        private long linesOf(Tree tree) {
            LineMap map = unit.getLineMap();
            return map.getLineNumber(trees.getSourcePositions().getEndPosition(unit, tree))
                - map.getLineNumber(trees.getSourcePositions().getStartPosition(unit, tree)) + 1;
        }

        private Element element() {
            return trees.getElement(getCurrentPath());
        }

        private TypeMirror typeOf(Tree tree) {
            return trees.getTypeMirror(new TreePath(getCurrentPath(), tree));
        }

        @Override
        public Void scan(Tree tree, Void nothing) {
            if (tree != null) {
                holds(6, at(tree) + tree.getKind(), !BANNED.contains(tree.getKind()));
            }
            return super.scan(tree, nothing);
        }

        @Override
        public Void visitClass(ClassTree tree, Void nothing) {
            classes++;
            Element self = element();
            boolean isOutmost = self.getEnclosingElement().getKind() == ElementKind.PACKAGE;
            holds(2, at(tree) + "a class stands in a class and is static", isOutmost
                || self.getEnclosingElement().getKind() == ElementKind.CLASS
                && self.getModifiers().contains(Modifier.STATIC));
            holds(1, at(tree) + "public final outmost, none public inside",
                isOutmost == self.getModifiers().contains(Modifier.PUBLIC)
                && self.getModifiers().contains(Modifier.FINAL));
            int fields = 0;
            for (Tree member : tree.getMembers()) {
                holds(5, at(member) + "no block outside a method", member.getKind() != Tree.Kind.BLOCK);
                if (member instanceof VariableTree field
                    && !field.getModifiers().getFlags().contains(Modifier.STATIC)) {
                    fields++;
                }
            }
            holds(11, at(tree) + fields + " fields", fields <= FIELDS);
            return super.visitClass(tree, nothing);
        }

        @Override
        public Void visitVariable(VariableTree tree, Void nothing) {
            Element self = element();
            holds(3, at(tree) + "the type of " + tree.getName() + ": " + self.asType(), isOfTheRules(self.asType()));
            if (self.getKind() == ElementKind.FIELD && self.getModifiers().contains(Modifier.STATIC)) {
                holds(5, at(tree) + tree.getName() + " is final", self.getModifiers().contains(Modifier.FINAL));
                holds(5, at(tree) + tree.getName() + " is a constant",
                    Set.of("int", "long", "boolean", "char", "java.lang.String").contains(self.asType().toString()));
            }
            if (self.getKind() == ElementKind.FIELD && within.isEmpty()
                && self.getEnclosingElement().getSimpleName().contentEquals("GatesBent")) {
                boolean isFace = self.getModifiers().contains(Modifier.PUBLIC);
                holds(1, at(tree) + tree.getName() + " is private or a constant of the face",
                    isFace ? Set.of("NONE", "BAD", "STATE", "FULL", "NO").contains(tree.getName().toString())
                        : self.getModifiers().contains(Modifier.PRIVATE));
            }
            return super.visitVariable(tree, nothing);
        }

        private static boolean isOfTheRules(TypeMirror type) {
            if (type.getKind() == TypeKind.ARRAY) {
                TypeMirror item = ((ArrayType) type).getComponentType();
                return item.getKind() == TypeKind.ARRAY
                    ? ((ArrayType) item).getComponentType().getKind().isPrimitive()
                    : item.getKind().isPrimitive() || isOwn(item);
            }
            return type.getKind().isPrimitive() && type.getKind() != TypeKind.DOUBLE
                && type.getKind() != TypeKind.FLOAT || isOwn(type) || type.toString().equals("java.lang.String");
        }

        private static boolean isOwn(TypeMirror type) {
            return type.toString().startsWith("GatesBent");
        }

        @Override
        public Void visitMethod(MethodTree tree, Void nothing) {
            ExecutableElement self = (ExecutableElement) element();
            String name = nameOf(self);
            holds(11, at(tree) + name + " takes " + tree.getParameters().size(),
                tree.getParameters().size() <= PARAMETERS);
            if (trees.getSourcePositions().getEndPosition(unit, tree) >= 0) {
                holds(11, at(tree) + name + " has " + linesOf(tree) + " lines", linesOf(tree) <= LINES);
            }
            holds(1, at(tree) + name + " is the only one of its name", methods.put(name, self) == null
                || self.getKind() == ElementKind.CONSTRUCTOR);
            if (self.getModifiers().contains(Modifier.PUBLIC) && self.getKind() == ElementKind.METHOD) {
                publicNames.add(self.getSimpleName().toString());
            }
            calls.putIfAbsent(name, new TreeSet<>());
            within.push(name);
            super.visitMethod(tree, nothing);
            within.pop();
            return null;
        }

        private static String nameOf(Element method) {
            return method.getEnclosingElement().getSimpleName() + "." + method.getSimpleName();
        }

        @Override
        public Void visitMethodInvocation(MethodInvocationTree tree, Void nothing) {
            ExecutableElement called = (ExecutableElement) element();
            TypeElement owner = (TypeElement) called.getEnclosingElement();
            String name = nameOf(called);
            if (called.getKind() != ElementKind.CONSTRUCTOR) {
                if (!isOwn(owner.asType())) {
                    name = owner.getQualifiedName() + "." + called.getSimpleName();
                    holds(4, at(tree) + name, LIBRARY.contains(name));
                }
                if (!within.isEmpty()) {
                    calls.get(within.peek()).add(name);
                }
            }
            return super.visitMethodInvocation(tree, nothing);
        }

        @Override
        public Void visitNewClass(NewClassTree tree, Void nothing) {
            holds(2, at(tree) + "no class of its own", tree.getClassBody() == null);
            holds(4, at(tree) + "an object of " + typeOf(tree.getIdentifier()),
                isOwn(typeOf(tree.getIdentifier())));
            isMadeWhereItMay(tree);
            if (!within.isEmpty()) {
                String made = ((TypeElement) element().getEnclosingElement()).getSimpleName() + ".<init>";
                calls.get(within.peek()).add(made);
            }
            return super.visitNewClass(tree, nothing);
        }

        @Override
        public Void visitNewArray(NewArrayTree tree, Void nothing) {
            isMadeWhereItMay(tree);
            return super.visitNewArray(tree, nothing);
        }

        /** One room for all calls: constructors make, and house() one house for each of its six numbers. */
        private void isMadeWhereItMay(Tree tree) {
            boolean isInConstructor = within.isEmpty() || within.peek().endsWith(".<init>");
            holds(12, at(tree) + "is made in a constructor, or by house(), and there in no loop",
                isInConstructor || within.peek().equals("GatesBent.house") && loops == 0);
        }

        @Override
        public Void visitBinary(BinaryTree tree, Void nothing) {
            String left = typeOf(tree.getLeftOperand()).toString();
            String right = typeOf(tree.getRightOperand()).toString();
            switch (tree.getKind()) {
                case PLUS:
                    holds(10, at(tree) + "texts joined by +", !left.endsWith("String") && !right.endsWith("String"));
                    break;
                case EQUAL_TO:
                case NOT_EQUAL_TO:
                    holds(6, at(tree) + "== of two " + left, !left.startsWith("java.lang")
                        || !right.startsWith("java.lang"));
                    break;
                case DIVIDE:
                case REMAINDER:
                    dividesBy(tree, tree.getRightOperand());
                    break;
                default:
                    break;
            }
            return super.visitBinary(tree, nothing);
        }

        @Override
        public Void visitCompoundAssignment(CompoundAssignmentTree tree, Void nothing) {
            if (tree.getKind() == Tree.Kind.DIVIDE_ASSIGNMENT || tree.getKind() == Tree.Kind.REMAINDER_ASSIGNMENT) {
                dividesBy(tree, tree.getExpression());
            }
            if (tree.getKind() == Tree.Kind.PLUS_ASSIGNMENT) {
                holds(10, at(tree) + "a text joined by +=", !typeOf(tree.getVariable()).toString().endsWith("String"));
            }
            return super.visitCompoundAssignment(tree, nothing);
        }

        /** A divisor is a constant above 0, or one that its method looks at beforehand (told here by name). */
        private void dividesBy(Tree tree, ExpressionTree divisor) {
            boolean isConstant = divisor.getKind() == Tree.Kind.INT_LITERAL && !divisor.toString().equals("0")
                || Set.of("MARKS", "KNOWN").contains(divisor.toString());
            String where = within.isEmpty() ? "" : within.peek();
            boolean isLookedAt = Set.of("Town.spendDay house.age", "GatesBent.pupil now.many",
                "GatesBent.lowest d", "GatesBent.lowest common").contains(where + " " + divisor);
            holds(7, at(tree) + where + " divides by " + divisor, isConstant || isLookedAt);
        }

        @Override
        public Void visitTypeCast(TypeCastTree tree, Void nothing) {
            holds(6, at(tree) + "a cast among numbers alone", typeOf(tree.getType()).getKind().isPrimitive());
            return super.visitTypeCast(tree, nothing);
        }

        @Override
        public Void visitForLoop(ForLoopTree tree, Void nothing) {
            holds(9, at(tree) + "a for has a bound and a step", tree.getCondition() != null
                && tree.getUpdate().size() > 0);
            loops++;
            super.visitForLoop(tree, nothing);
            loops--;
            return null;
        }

        @Override
        public Void visitWhileLoop(WhileLoopTree tree, Void nothing) {
            // its bound is the word's length, its step same++
            holds(9, at(tree) + "a while whose end is looked at", "Reader.sameSigns".equals(within.peek()));
            loops++;
            super.visitWhileLoop(tree, nothing);
            loops--;
            return null;
        }

        @Override
        public Void visitDoWhileLoop(DoWhileLoopTree tree, Void nothing) {
            holds(9, at(tree) + "no do", false);
            return super.visitDoWhileLoop(tree, nothing);
        }
    }

    /** How many calls stand open at most from this one on, itself counted; one that recurs counts once. */
    private static int depth(String from, List<String> open) {
        if (open.contains(from)) {
            return 0;
        }
        int deepest = 0;
        open.add(from);
        for (String called : calls.getOrDefault(from, Set.of())) {
            deepest = Math.max(deepest, depth(called, open));
        }
        open.remove(open.size() - 1);
        return deepest + 1;
    }

    private static boolean reaches(String from, String to, Set<String> been) {
        for (String called : calls.getOrDefault(from, Set.of())) {
            if (called.equals(to) || been.add(called) && reaches(called, to, been)) {
                return true;
            }
        }
        return false;
    }

    private static void callsOfOneAnother() {
        for (Map.Entry<String, ExecutableElement> method : methods.entrySet()) {
            String name = method.getKey();
            ExecutableElement self = method.getValue();
            boolean isPublic = self.getModifiers().contains(Modifier.PUBLIC);
            holds(1, "not public, but of a public one's name: " + name,
                isPublic || !publicNames.contains(self.getSimpleName().toString()));
            if (reaches(name, name, new TreeSet<>())) {
                holds(8, name + " calls itself", RECURSIVE.contains(name)
                    && self.getModifiers().contains(Modifier.PRIVATE));
                holds(8, name + " is told its depth", self.getParameters().stream()
                    .anyMatch(p -> p.getSimpleName().contentEquals("depth")));
            }
            if (isPublic) {
                int deep = depth(name, new ArrayList<>());
                holds(11, name + " goes " + deep + " deep", deep <= DEEPEST);
            }
        }
    }

    public static void main(String[] args) throws IOException {
        JavaCompiler javac = ToolProvider.getSystemJavaCompiler();
        StandardJavaFileManager files = javac.getStandardFileManager(null, null, null);
        JavacTask task = (JavacTask) javac.getTask(null, files, null, List.of("-proc:none"), null,
            files.getJavaFileObjects(SOURCE));
        CompilationUnitTree unit = task.parse().iterator().next();
        task.analyze();
        Reading reading = new Reading(Trees.instance(task), unit);
        reading.scan(unit, null);
        holds(11, reading.classes + " classes", reading.classes <= CLASSES);
        holds(1, "34 methods of the face", publicNames.size() == 34);
        callsOfOneAnother();
        System.out.println(wrong == 0 ? "source: " + looked + " places, all within the rules"
            : wrong + " places are not within the rules");
        if (wrong != 0) {
            System.exit(1);
        }
    }
}
