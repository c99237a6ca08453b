import com.sun.source.tree.AssertTree;
import com.sun.source.tree.BinaryTree;
import com.sun.source.tree.ClassTree;
import com.sun.source.tree.CompilationUnitTree;
import com.sun.source.tree.CompoundAssignmentTree;
import com.sun.source.tree.DoWhileLoopTree;
import com.sun.source.tree.ExpressionTree;
import com.sun.source.tree.ForLoopTree;
import com.sun.source.tree.IdentifierTree;
import com.sun.source.tree.ImportTree;
import com.sun.source.tree.LambdaExpressionTree;
import com.sun.source.tree.LineMap;
import com.sun.source.tree.LiteralTree;
import com.sun.source.tree.MemberReferenceTree;
import com.sun.source.tree.MemberSelectTree;
import com.sun.source.tree.MethodInvocationTree;
import com.sun.source.tree.MethodTree;
import com.sun.source.tree.NewArrayTree;
import com.sun.source.tree.NewClassTree;
import com.sun.source.tree.PrimitiveTypeTree;
import com.sun.source.tree.SynchronizedTree;
import com.sun.source.tree.ThrowTree;
import com.sun.source.tree.Tree;
import com.sun.source.tree.TryTree;
import com.sun.source.tree.TypeCastTree;
import com.sun.source.tree.VariableTree;
import com.sun.source.tree.WhileLoopTree;
import com.sun.source.util.JavacTask;
import com.sun.source.util.SourcePositions;
import com.sun.source.util.TreeScanner;
import com.sun.source.util.Trees;
import java.io.IOException;
import java.lang.reflect.Array;
import java.lang.reflect.Field;
import java.lang.reflect.Modifier;
import java.nio.file.Path;
import java.util.ArrayDeque;
import java.util.Collections;
import java.util.Deque;
import java.util.HashMap;
import java.util.HashSet;
import java.util.IdentityHashMap;
import java.util.Map;
import java.util.Set;
import java.util.TreeSet;
import javax.tools.JavaCompiler;
import javax.tools.StandardJavaFileManager;
import javax.tools.ToolProvider;

/** The rules of LANGUAGE.md, as far as they can be read from the code: its tree, by the compiler's own eyes. */
final class LanguageTest {
    private static final Due due = new Due();
    /** What the class uses of rule 4, which lists more: what comes to it is to be looked up there first. */
    private static final Set<String> LIBRARY = Set.of("Arrays.fill", "System.arraycopy", "Math.max", "Math.min");
    private static final Set<String> NUMBERS = Set.of("int", "long", "short", "byte", "char", "boolean");
    private static final int MOST_LINES = 60, MOST_PARAMETERS = 7, MOST_DEEP = 8, MOST_CLASSES = 12, MOST_FIELDS = 20;
    /** What one object may keep: far below the room's 600,000 objects and 7.3 million elements by the thousand. */
    private static final int MOST_OBJECTS = 100, MOST_ELEMENTS = 1500;

    public static void main(String[] args) throws IOException {
        JavaCompiler compiler = ToolProvider.getSystemJavaCompiler();
        try (StandardJavaFileManager files = compiler.getStandardFileManager(null, null, null)) {
            JavacTask task = (JavacTask) compiler.getTask(null, files, null, null, null, files.getJavaFileObjects(Path.of("src/main/java/SeaGates.java")));
            for (CompilationUnitTree unit : task.parse()) {
                new Reader(unit, Trees.instance(task).getSourcePositions()).read();
            }
        }
        room();
        due.end();
    }

    private static final class Reader extends TreeScanner<Void, Void> {
        private final CompilationUnitTree unit;
        private final SourcePositions positions;
        private final Set<String> ownClasses = new TreeSet<>();
        private final Set<String> ownMethods = new TreeSet<>();
        private final Set<String> face = new TreeSet<>();
        private final Set<String> hidden = new TreeSet<>();
        private final Map<String, Set<String>> calls = new HashMap<>();
        private final Deque<String> classes = new ArrayDeque<>();
        private String method = "";

        Reader(CompilationUnitTree unit, SourcePositions positions) {
            this.unit = unit;
            this.positions = positions;
        }

        void read() {
            due.holds("no package line", unit.getPackage() == null);
            due.is("one class in the file", unit.getTypeDecls().size(), 1);
            new TreeScanner<Void, Void>() {
                @Override
                public Void visitClass(ClassTree c, Void none) {
                    ownClasses.add(c.getSimpleName().toString());
                    return super.visitClass(c, none);
                }

                @Override
                public Void visitMethod(MethodTree m, Void none) {
                    ownMethods.add(m.getName().toString());
                    return super.visitMethod(m, none);
                }
            }.scan(unit, null);
            scan(unit, null);
            due.holds("12 classes at most: " + ownClasses, ownClasses.size() <= MOST_CLASSES);
            hidden.retainAll(face);
            due.holds("no private method bears the name of a public one: " + hidden, hidden.isEmpty());
            for (String name : calls.keySet()) {
                int deep = depth(name, new HashSet<>());
                due.holds(name + " goes " + deep + " deep", deep <= MOST_DEEP);
            }
        }

        /** By names alone: a call that comes back to a name is the same body of another KIND. */
        private int depth(String name, Set<String> open) {
            int most = 0;
            open.add(name);
            for (String called : calls.getOrDefault(name, Set.of())) {
                if (!open.contains(called)) {
                    most = Math.max(most, depth(called, open));
                }
            }
            open.remove(name);
            return most + 1;
        }

        private String at(Tree tree) {
            LineMap lines = unit.getLineMap();
            return "line " + lines.getLineNumber(positions.getStartPosition(unit, tree)) + ": ";
        }

        private void never(Tree tree, String what) {
            due.holds(at(tree) + "no " + what, false);
        }

        @Override
        public Void visitImport(ImportTree tree, Void none) {
            due.holds(at(tree) + "java.util alone", tree.getQualifiedIdentifier().toString().matches("java\\.util\\.(Arrays|ArrayList|List)"));
            return null;
        }

        @Override
        public Void visitClass(ClassTree tree, Void none) {
            due.holds(at(tree) + "no class inside a method", method.isEmpty());
            if (!classes.isEmpty()) {
                due.holds(at(tree) + "static", tree.getModifiers().getFlags().contains(javax.lang.model.element.Modifier.STATIC));
            }
            int fields = 0;
            for (Tree member : tree.getMembers()) {
                if (member instanceof VariableTree field) {
                    fields += checkField(field);
                }
                due.holds(at(member) + "no initialiser block", member.getKind() != Tree.Kind.BLOCK);
            }
            due.holds(at(tree) + "20 fields at most", fields <= MOST_FIELDS);
            classes.push(tree.getSimpleName().toString());
            super.visitClass(tree, none);
            classes.pop();
            return null;
        }

        /** How many it counts for: a constant for none. */
        private int checkField(VariableTree field) {
            Set<javax.lang.model.element.Modifier> flags = field.getModifiers().getFlags();
            if (!flags.contains(javax.lang.model.element.Modifier.STATIC)) {
                return 1;
            }
            due.holds(at(field) + "static fields are final", flags.contains(javax.lang.model.element.Modifier.FINAL));
            due.holds(at(field) + "static fields are numbers", NUMBERS.contains(field.getType().toString()));
            return 0;
        }

        @Override
        public Void visitMethod(MethodTree tree, Void none) {
            String name = tree.getName().toString();
            Set<javax.lang.model.element.Modifier> flags = tree.getModifiers().getFlags();
            if (classes.size() == 1 && !name.equals("<init>")) {
                boolean isPublic = flags.contains(javax.lang.model.element.Modifier.PUBLIC);
                due.holds(at(tree) + "public or private", isPublic || flags.contains(javax.lang.model.element.Modifier.PRIVATE));
                (isPublic ? face : hidden).add(name);
            } else if (flags.contains(javax.lang.model.element.Modifier.PRIVATE)) {
                hidden.add(name);
            }
            LineMap lines = unit.getLineMap();
            long from = lines.getLineNumber(positions.getStartPosition(unit, tree));
            long to = lines.getLineNumber(positions.getEndPosition(unit, tree));
            due.holds(at(tree) + name + " is short", to - from < MOST_LINES);
            due.holds(at(tree) + name + " takes seven at most", tree.getParameters().size() <= MOST_PARAMETERS);
            due.holds(at(tree) + name + " tells of no exception", tree.getThrows().isEmpty());
            method = name;
            calls.computeIfAbsent(name, k -> new TreeSet<>());
            super.visitMethod(tree, none);
            method = "";
            return null;
        }

        @Override
        public Void visitMethodInvocation(MethodInvocationTree tree, Void none) {
            ExpressionTree called = tree.getMethodSelect();
            String text = called.toString();
            String name = called instanceof MemberSelectTree select ? select.getIdentifier().toString() : text;
            if (!text.equals("super")) {
                due.holds(at(tree) + text + " is of the class or of what rule 4 lists", ownMethods.contains(name) || LIBRARY.contains(text));
                due.holds(at(tree) + "the class does not call its own face", !face.contains(name) || classes.size() > 1);
                if (ownMethods.contains(name) && !method.isEmpty()) {
                    calls.computeIfAbsent(method, k -> new TreeSet<>()).add(name);
                }
            }
            return super.visitMethodInvocation(tree, none);
        }

        @Override
        public Void visitNewClass(NewClassTree tree, Void none) {
            String made = tree.getIdentifier().toString();
            due.holds(at(tree) + "only own objects are made", ownClasses.contains(made) && tree.getClassBody() == null);
            due.holds(at(tree) + "objects are made by constructors and for a GATE alone", method.isEmpty() || method.equals("gateOf"));
            return super.visitNewClass(tree, none);
        }

        @Override
        public Void visitNewArray(NewArrayTree tree, Void none) {
            due.holds(at(tree) + "rows are made by constructors alone", method.isEmpty());
            for (ExpressionTree length : tree.getDimensions()) {
                due.holds(at(tree) + "a row's length is a constant", isConstant(length));
            }
            return super.visitNewArray(tree, none);
        }

        private static boolean isConstant(ExpressionTree tree) {
            return tree instanceof LiteralTree || tree instanceof IdentifierTree id && id.getName().toString().matches("[A-Z][A-Z_]*");
        }

        private static boolean isDivision(Tree tree) {
            return Set.of(Tree.Kind.DIVIDE, Tree.Kind.REMAINDER, Tree.Kind.DIVIDE_ASSIGNMENT, Tree.Kind.REMAINDER_ASSIGNMENT).contains(tree.getKind());
        }

        @Override
        public Void visitBinary(BinaryTree tree, Void none) {
            due.holds(at(tree) + "a divisor is a constant", !isDivision(tree) || isConstant(tree.getRightOperand()));
            return super.visitBinary(tree, none);
        }

        @Override
        public Void visitCompoundAssignment(CompoundAssignmentTree tree, Void none) {
            due.holds(at(tree) + "a divisor is a constant", !isDivision(tree) || isConstant(tree.getExpression()));
            return super.visitCompoundAssignment(tree, none);
        }

        @Override
        public Void visitTypeCast(TypeCastTree tree, Void none) {
            due.holds(at(tree) + "casts of numbers alone", tree.getType() instanceof PrimitiveTypeTree);
            return super.visitTypeCast(tree, none);
        }

        @Override
        public Void visitWhileLoop(WhileLoopTree tree, Void none) {
            due.holds(at(tree) + "a loop has a bound", tree.getCondition().toString().matches(".*[<>].*"));
            return super.visitWhileLoop(tree, none);
        }

        @Override
        public Void visitForLoop(ForLoopTree tree, Void none) {
            due.holds(at(tree) + "a loop has a bound", tree.getCondition() != null && tree.getCondition().toString().matches(".*[<>].*"));
            return super.visitForLoop(tree, none);
        }

        @Override
        public Void visitDoWhileLoop(DoWhileLoopTree tree, Void none) {
            never(tree, "do");
            return null;
        }

        @Override
        public Void visitThrow(ThrowTree tree, Void none) {
            never(tree, "throw");
            return null;
        }

        @Override
        public Void visitTry(TryTree tree, Void none) {
            never(tree, "try");
            return null;
        }

        @Override
        public Void visitSynchronized(SynchronizedTree tree, Void none) {
            never(tree, "synchronized");
            return null;
        }

        @Override
        public Void visitAssert(AssertTree tree, Void none) {
            never(tree, "assert");
            return null;
        }

        @Override
        public Void visitLambdaExpression(LambdaExpressionTree tree, Void none) {
            never(tree, "lambda");
            return null;
        }

        @Override
        public Void visitMemberReference(MemberReferenceTree tree, Void none) {
            never(tree, "method reference");
            return null;
        }
    }

    /** What a SeaGates keeps when all is full, and that nothing is kept behind that by calls. */
    private static void room() {
        SeaGates x = new SeaGates();
        for (int k = 0; k < 8; k++) {
            x.sheet(k, 1, 60);
            x.world(20, k, 0);
            x.gate(100, 50);
            x.ship(k, 1);
            x.ship(k, 2);
            x.ship(k, 3);
        }
        int[] first = kept(x);
        due.holds(first[0] + " objects and " + first[1] + " elements are kept", first[0] <= MOST_OBJECTS && first[1] <= MOST_ELEMENTS);
        for (int k = 0; k < 400; k++) {
            x.river(k % 8, k % 100);
            x.best();
            x.hour(k % 8, 7, 3);
            x.time(1 + k % 3, 1);
            x.ask(k % 6, 1);
            x.sheet(k % 8, k % 3, k % 61);
        }
        int[] then = kept(x);
        due.is("objects are as many behind many calls", then[0], first[0]);
        due.is("elements are as many behind many calls", then[1], first[1]);
    }

    /** Objects and rows; fields and elements. */
    private static int[] kept(SeaGates x) {
        Set<Object> seen = Collections.newSetFromMap(new IdentityHashMap<>());
        Deque<Object> open = new ArrayDeque<>();
        open.add(x);
        int elements = 0;
        while (!open.isEmpty()) {
            Object here = open.remove();
            if (!seen.add(here)) {
                continue;
            }
            elements += here.getClass().isArray() ? ofRow(here, open) : ofObject(here, open);
        }
        return new int[] {seen.size(), elements};
    }

    private static int ofRow(Object row, Deque<Object> open) {
        int length = Array.getLength(row);
        for (int k = 0; k < length && !row.getClass().getComponentType().isPrimitive(); k++) {
            if (Array.get(row, k) != null) {
                open.add(Array.get(row, k));
            }
        }
        return length;
    }

    private static int ofObject(Object here, Deque<Object> open) {
        int fields = 0;
        for (Class<?> c = here.getClass(); c != Object.class; c = c.getSuperclass()) {
            for (Field f : c.getDeclaredFields()) {
                if (Modifier.isStatic(f.getModifiers())) {
                    continue;
                }
                fields++;
                try {
                    f.setAccessible(true);
                    if (!f.getType().isPrimitive() && f.get(here) != null) {
                        open.add(f.get(here));
                    }
                } catch (IllegalAccessException e) {
                    throw new IllegalStateException(e);
                }
            }
        }
        return fields;
    }
}
