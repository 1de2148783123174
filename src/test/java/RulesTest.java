import com.sun.source.tree.AssertTree;
import com.sun.source.tree.ClassTree;
import com.sun.source.tree.CompilationUnitTree;
import com.sun.source.tree.DoWhileLoopTree;
import com.sun.source.tree.ExpressionTree;
import com.sun.source.tree.ForLoopTree;
import com.sun.source.tree.IdentifierTree;
import com.sun.source.tree.LambdaExpressionTree;
import com.sun.source.tree.MemberReferenceTree;
import com.sun.source.tree.MemberSelectTree;
import com.sun.source.tree.MethodInvocationTree;
import com.sun.source.tree.MethodTree;
import com.sun.source.tree.NewArrayTree;
import com.sun.source.tree.NewClassTree;
import com.sun.source.tree.SynchronizedTree;
import com.sun.source.tree.ThrowTree;
import com.sun.source.tree.Tree;
import com.sun.source.tree.TryTree;
import com.sun.source.tree.VariableTree;
import com.sun.source.tree.WhileLoopTree;
import com.sun.source.util.JavacTask;
import com.sun.source.util.SourcePositions;
import com.sun.source.util.TreeScanner;
import com.sun.source.util.Trees;
import java.io.IOException;
import java.lang.reflect.Method;
import java.nio.charset.StandardCharsets;
import java.nio.file.Files;
import java.nio.file.Path;
import java.util.Arrays;
import java.util.HashMap;
import java.util.HashSet;
import java.util.List;
import java.util.Map;
import java.util.Set;
import java.util.TreeSet;
import javax.lang.model.element.Modifier;
import javax.tools.JavaCompiler;
import javax.tools.StandardJavaFileManager;
import javax.tools.ToolProvider;

/** The rules of LANGUAGE.md that can be read off the source, as the compiler understands it. */
public final class RulesTest {
    private static final Path SOURCE = Path.of("src/main/java/AshGreetings.java");
    /** Fewer than rule 4 lists: none that makes an object. */
    private static final Set<String> LIBRARY = Set.of("Math.max", "Math.min", "Math.abs",
        "System.arraycopy", "Arrays.fill");
    private static final Set<String> NEVER = Set.of("equals", "hashCode", "toString", "clone");
    private static final Set<String> STATIC_TYPES = Set.of("int", "long", "boolean", "char", "String",
        "int[]", "long[]", "char[]", "byte[]");
    private static final int MOST_LINES = 60, MOST_PARAMETERS = 7, MOST_DEPTH = 8;
    private static final int MOST_CLASSES = 12, MOST_FIELDS = 20;

    public static void main(String[] args) throws IOException {
        Check check = new Check("RulesTest");
        signsArePlain(check, Files.readString(SOURCE, StandardCharsets.ISO_8859_1));
        JavaCompiler compiler = ToolProvider.getSystemJavaCompiler();
        try (StandardJavaFileManager files = compiler.getStandardFileManager(null, null, null)) {
            JavacTask task = (JavacTask) compiler.getTask(null, files, null, List.of("-proc:none"), null,
                files.getJavaFileObjects(SOURCE));
            for (CompilationUnitTree unit : task.parse()) {
                Reader reader = new Reader(check, unit, Trees.instance(task).getSourcePositions());
                unit.accept(reader, null);
                reader.judgeTheWhole();
            }
        }
        check.end();
    }

    private static void signsArePlain(Check check, String source) {
        boolean isPlain = source.chars().allMatch(sign -> sign >= 1 && sign <= 127);
        check.due("signs 1 to 127 alone", isPlain ? 1 : 0, 1);
        long wide = Arrays.stream(source.split("\n")).filter(line -> line.length() > 110).count();
        check.due("lines that are too long", wide, 0);
    }

    private static final class Reader extends TreeScanner<Void, Void> {
        private final Check check;
        private final CompilationUnitTree unit;
        private final SourcePositions positions;
        private final Set<String> face = new TreeSet<>();
        private final Map<String, Set<String>> calls = new HashMap<>();
        private MethodTree method = null;
        private int classes = 0;

        Reader(Check check, CompilationUnitTree unit, SourcePositions positions) {
            this.check = check;
            this.unit = unit;
            this.positions = positions;
            for (Method open : AshGreetings.class.getMethods()) {
                if (open.getDeclaringClass() == AshGreetings.class) {
                    face.add(open.getName());
                }
            }
        }

        private long line(long position) {
            return unit.getLineMap().getLineNumber(position);
        }

        private void holds(String rule, Tree tree, boolean isSo) {
            long at = line(positions.getStartPosition(unit, tree));
            check.due("rule " + rule + ", line " + at, isSo ? 1 : 0, 1);
        }

        void judgeTheWhole() {
            check.due("rule 11, classes: " + classes, classes <= MOST_CLASSES ? 1 : 0, 1);
            check.due("rule 1, no package", unit.getPackageName() == null ? 1 : 0, 1);
            unit.getImports().forEach(used -> holds("4, an import", used,
                used.getQualifiedIdentifier().toString().equals("java.util.Arrays")));
            for (String open : face) {
                int depth = depthFrom(open, new HashSet<>());
                check.due("rule 11, " + open + " goes " + depth + " deep", depth <= MOST_DEPTH ? 1 : 0, 1);
            }
        }

        /** By names, so that all KINDS of one method count; one that stands open is a recursion. */
        private int depthFrom(String name, Set<String> open) {
            if (!calls.containsKey(name) || !open.add(name)) {
                return 0;
            }
            int deepest = 0;
            for (String next : calls.get(name)) {
                deepest = Math.max(deepest, depthFrom(next, open));
            }
            open.remove(name);
            return deepest + 1;
        }

        @Override
        public Void visitClass(ClassTree type, Void none) {
            classes++;
            Set<Modifier> flags = type.getModifiers().getFlags();
            holds("2, a class inside a method", type, method == null);
            if (!type.getSimpleName().contentEquals("AshGreetings")) {
                holds("2, static", type, flags.contains(Modifier.STATIC));
                holds("1, a class inside is not open", type, !flags.contains(Modifier.PUBLIC)
                    && !flags.contains(Modifier.PROTECTED));
            }
            int fields = 0;
            for (Tree member : type.getMembers()) {
                holds("5, no block", member, member.getKind() != Tree.Kind.BLOCK);
                if (member instanceof VariableTree field) {
                    fields += judgeField(field);
                }
            }
            holds("11, " + fields + " fields", type, fields <= MOST_FIELDS);
            return super.visitClass(type, none);
        }

        /** How many fields beside constants: 0 or 1. */
        private int judgeField(VariableTree field) {
            Set<Modifier> flags = field.getModifiers().getFlags();
            if (!flags.contains(Modifier.STATIC)) {
                return 1;
            }
            holds("5, final", field, flags.contains(Modifier.FINAL));
            holds("5, " + field.getType(), field, STATIC_TYPES.contains(field.getType().toString()));
            holds("5, written out", field, field.getInitializer() != null);
            return 0;
        }

        @Override
        public Void visitMethod(MethodTree tree, Void none) {
            String name = tree.getName().toString();
            boolean isOpen = tree.getModifiers().getFlags().contains(Modifier.PUBLIC);
            holds("1, " + name + " bears a name of the face", tree, isOpen || !face.contains(name));
            holds("11, parameters", tree, tree.getParameters().size() <= MOST_PARAMETERS);
            long lines = 1 + line(positions.getEndPosition(unit, tree))
                - line(positions.getStartPosition(unit, tree));
            holds("11, " + name + " has " + lines + " lines", tree, lines <= MOST_LINES);
            calls.putIfAbsent(name, new TreeSet<>());
            method = tree;
            super.visitMethod(tree, none);
            method = null;
            return null;
        }

        @Override
        public Void visitMethodInvocation(MethodInvocationTree call, Void none) {
            ExpressionTree select = call.getMethodSelect();
            if (select instanceof IdentifierTree own) {
                noteCall(own.getName().toString());
            } else if (select instanceof MemberSelectTree member) {
                noteCall(member.getIdentifier().toString());
                boolean isOfClass = Character.isUpperCase(member.getExpression().toString().charAt(0));
                holds("4, " + select, call, !isOfClass || LIBRARY.contains(select.toString()));
            }
            return super.visitMethodInvocation(call, none);
        }

        private void noteCall(String name) {
            check.due("rules 6, 12, a call of " + name, NEVER.contains(name) ? 1 : 0, 0);
            if (method != null) {
                calls.get(method.getName().toString()).add(name);
            }
        }

        private boolean isMakingAllowed() {
            return method == null || method.getName().contentEquals("<init>");
        }

        @Override
        public Void visitNewClass(NewClassTree made, Void none) {
            holds("12, an object made by a call", made, isMakingAllowed());
            holds("2, no anonymous class", made, made.getClassBody() == null);
            return super.visitNewClass(made, none);
        }

        @Override
        public Void visitNewArray(NewArrayTree made, Void none) {
            holds("12, an array made by a call", made, isMakingAllowed());
            return super.visitNewArray(made, none);
        }

        @Override
        public Void visitForLoop(ForLoopTree loop, Void none) {
            holds("9, a bound", loop, loop.getCondition() != null && !loop.getUpdate().isEmpty());
            return super.visitForLoop(loop, none);
        }

        @Override
        public Void visitWhileLoop(WhileLoopTree loop, Void none) {
            holds("9, no loop without a counter", loop, false);
            return super.visitWhileLoop(loop, none);
        }

        @Override
        public Void visitDoWhileLoop(DoWhileLoopTree loop, Void none) {
            holds("9, no loop without a counter", loop, false);
            return super.visitDoWhileLoop(loop, none);
        }

        @Override
        public Void visitLambdaExpression(LambdaExpressionTree tree, Void none) {
            holds("2, no lambda", tree, false);
            return super.visitLambdaExpression(tree, none);
        }

        @Override
        public Void visitMemberReference(MemberReferenceTree tree, Void none) {
            holds("2, no method reference", tree, false);
            return super.visitMemberReference(tree, none);
        }

        @Override
        public Void visitThrow(ThrowTree tree, Void none) {
            holds("6, no throw", tree, false);
            return super.visitThrow(tree, none);
        }

        @Override
        public Void visitTry(TryTree tree, Void none) {
            holds("6, no try", tree, false);
            return super.visitTry(tree, none);
        }

        @Override
        public Void visitSynchronized(SynchronizedTree tree, Void none) {
            holds("6, no synchronized", tree, false);
            return super.visitSynchronized(tree, none);
        }

        @Override
        public Void visitAssert(AssertTree tree, Void none) {
            holds("6, no assert", tree, false);
            return super.visitAssert(tree, none);
        }
    }
}
