import com.sun.source.tree.BlockTree;
import com.sun.source.tree.ClassTree;
import com.sun.source.tree.CompilationUnitTree;
import com.sun.source.tree.EnhancedForLoopTree;
import com.sun.source.tree.ExpressionTree;
import com.sun.source.tree.ForLoopTree;
import com.sun.source.tree.LiteralTree;
import com.sun.source.tree.MethodInvocationTree;
import com.sun.source.tree.MethodTree;
import com.sun.source.tree.NewArrayTree;
import com.sun.source.tree.NewClassTree;
import com.sun.source.tree.ThrowTree;
import com.sun.source.tree.Tree;
import com.sun.source.tree.VariableTree;
import com.sun.source.tree.WhileLoopTree;
import com.sun.source.util.JavacTask;
import com.sun.source.util.TreePathScanner;
import com.sun.source.util.Trees;
import java.io.File;
import java.util.EnumSet;
import java.util.HashMap;
import java.util.HashSet;
import java.util.List;
import java.util.Map;
import java.util.Set;
import javax.lang.model.element.Element;
import javax.lang.model.element.ExecutableElement;
import javax.lang.model.element.Modifier;
import javax.tools.JavaCompiler;
import javax.tools.StandardJavaFileManager;
import javax.tools.ToolProvider;

/** The rules of LANGUAGE.md that a program can look at: the class is read as the compiler reads it. */
public final class LanguageTest {
    private static final File SOURCE = new File("src/main/java/InspectionOffice.java");
    private static final int MOST_PARAMETERS = 7;
    private static final int MOST_LINES = 60;
    private static final int MOST_CALLS_DEEP = 8;
    private static final int MOST_CLASSES = 12;
    private static final int MOST_FIELDS = 20;

    /** What the class is made of; all of it is among the rules. A new kind is to be looked up there. */
    private static final Set<Tree.Kind> KINDS = EnumSet.of(
            Tree.Kind.COMPILATION_UNIT, Tree.Kind.CLASS, Tree.Kind.METHOD, Tree.Kind.VARIABLE,
            Tree.Kind.MODIFIERS, Tree.Kind.BLOCK, Tree.Kind.PRIMITIVE_TYPE, Tree.Kind.ARRAY_TYPE,
            Tree.Kind.IDENTIFIER, Tree.Kind.MEMBER_SELECT, Tree.Kind.METHOD_INVOCATION,
            Tree.Kind.EXPRESSION_STATEMENT, Tree.Kind.ASSIGNMENT, Tree.Kind.RETURN, Tree.Kind.IF,
            Tree.Kind.FOR_LOOP, Tree.Kind.ENHANCED_FOR_LOOP, Tree.Kind.WHILE_LOOP,
            Tree.Kind.THROW, Tree.Kind.NEW_CLASS, Tree.Kind.NEW_ARRAY, Tree.Kind.ARRAY_ACCESS,
            Tree.Kind.CONDITIONAL_EXPRESSION, Tree.Kind.PARENTHESIZED, Tree.Kind.INT_LITERAL,
            Tree.Kind.LONG_LITERAL, Tree.Kind.BOOLEAN_LITERAL, Tree.Kind.STRING_LITERAL,
            Tree.Kind.NULL_LITERAL, Tree.Kind.PLUS, Tree.Kind.MINUS, Tree.Kind.MULTIPLY,
            Tree.Kind.DIVIDE, Tree.Kind.PLUS_ASSIGNMENT, Tree.Kind.POSTFIX_INCREMENT,
            Tree.Kind.POSTFIX_DECREMENT, Tree.Kind.UNARY_MINUS, Tree.Kind.LOGICAL_COMPLEMENT,
            Tree.Kind.CONDITIONAL_AND, Tree.Kind.CONDITIONAL_OR, Tree.Kind.AND, Tree.Kind.OR,
            Tree.Kind.XOR, Tree.Kind.LEFT_SHIFT, Tree.Kind.UNSIGNED_RIGHT_SHIFT,
            Tree.Kind.EQUAL_TO, Tree.Kind.NOT_EQUAL_TO, Tree.Kind.LESS_THAN,
            Tree.Kind.LESS_THAN_EQUAL, Tree.Kind.GREATER_THAN, Tree.Kind.GREATER_THAN_EQUAL);
    private static final Set<String> TYPES = Set.of("int", "long", "boolean", "void");
    private static final Set<String> LIBRARY = Set.of(
            "java.lang.Math.min", "java.lang.Integer.bitCount", "java.lang.Long.bitCount");
    private static final Set<String> EXCEPTIONS = Set.of("IllegalArgumentException",
            "IllegalStateException", "IndexOutOfBoundsException");

    private LanguageTest() {
    }

    public static void main(String[] args) throws Exception {
        JavaCompiler compiler = ToolProvider.getSystemJavaCompiler();
        try (StandardJavaFileManager files = compiler.getStandardFileManager(null, null, null)) {
            JavacTask task = (JavacTask) compiler.getTask(null, files, null, List.of("-proc:none"),
                    null, files.getJavaFileObjects(SOURCE));
            CompilationUnitTree unit = task.parse().iterator().next();
            task.analyze();
            Reader reader = new Reader(unit, Trees.instance(task));
            reader.scan(unit, null);
            holds("no package line, no import", unit.getPackage() == null
                    && unit.getImports().isEmpty());
            holds("no more than " + MOST_CLASSES + " classes", reader.classes <= MOST_CLASSES);
            callDepths(reader.calls);
        }
        Check.end();
    }

    private static void holds(String rule, boolean asItShould) {
        Check.due(rule, true, asItShould);
    }

    private static void callDepths(Map<Element, Set<Element>> calls) {
        holds("methods were found", calls.size() > 22);
        for (Element method : calls.keySet()) {
            int depth = depth(method, calls, new HashSet<>());
            holds("calls from " + method + " go " + depth + " deep", depth <= MOST_CALLS_DEEP);
        }
    }

    /** Answers more than may be for a method that comes back to itself. */
    private static int depth(Element method, Map<Element, Set<Element>> calls, Set<Element> open) {
        if (!open.add(method)) {
            return 1000;
        }
        int deepest = 0;
        for (Element called : calls.getOrDefault(method, Set.of())) {
            deepest = Math.max(deepest, depth(called, calls, open));
        }
        open.remove(method);
        return deepest + 1;
    }

    /** Goes through the class from its first line to its last. */
    private static final class Reader extends TreePathScanner<Void, Void> {
        final Map<Element, Set<Element>> calls = new HashMap<>();
        int classes;
        private final CompilationUnitTree unit;
        private final Trees trees;
        private Element method;
        private int loops;

        Reader(CompilationUnitTree unit, Trees trees) {
            this.unit = unit;
            this.trees = trees;
        }

        private long line(long position) {
            return unit.getLineMap().getLineNumber(position);
        }

        private long firstLine(Tree tree) {
            return line(trees.getSourcePositions().getStartPosition(unit, tree));
        }

        private long lastLine(Tree tree) {
            return line(trees.getSourcePositions().getEndPosition(unit, tree));
        }

        private void holdsAt(Tree tree, String rule, boolean asItShould) {
            holds("line " + firstLine(tree) + ": " + rule, asItShould);
        }

        @Override
        public Void scan(Tree tree, Void nothing) {
            if (tree != null) {
                holds("of a known kind: " + tree.getKind(), KINDS.contains(tree.getKind()));
                if (tree.getKind() == Tree.Kind.PRIMITIVE_TYPE) {
                    holds("of a known type: " + tree, TYPES.contains(tree.toString()));
                }
            }
            return super.scan(tree, nothing);
        }

        @Override
        public Void visitClass(ClassTree tree, Void nothing) {
            classes++;
            boolean isOuter = tree.getSimpleName().contentEquals("InspectionOffice");
            holdsAt(tree, "rule 2, a class inside is static",
                    isOuter || tree.getModifiers().getFlags().contains(Modifier.STATIC));
            int fields = 0;
            for (Tree member : tree.getMembers()) {
                holdsAt(member, "rule 5, no initialiser block", !(member instanceof BlockTree));
                if (member instanceof VariableTree) {
                    Set<Modifier> flags = ((VariableTree) member).getModifiers().getFlags();
                    boolean isStatic = flags.contains(Modifier.STATIC);
                    holdsAt(member, "rule 5, a static field is final",
                            !isStatic || flags.contains(Modifier.FINAL));
                    fields += isStatic ? 0 : 1;
                }
            }
            holdsAt(tree, "rule 11, not too many fields", fields <= MOST_FIELDS);
            return super.visitClass(tree, nothing);
        }

        @Override
        public Void visitMethod(MethodTree tree, Void nothing) {
            method = trees.getElement(getCurrentPath());
            calls.putIfAbsent(method, new HashSet<>());
            holdsAt(tree, "rule 11, not too many parameters",
                    tree.getParameters().size() <= MOST_PARAMETERS);
            holdsAt(tree, "rule 11, not too many lines",
                    lastLine(tree) - firstLine(tree) < MOST_LINES);
            holdsAt(tree, "rule 6, no equals, hashCode or toString",
                    !Set.of("equals", "hashCode", "toString").contains(tree.getName().toString()));
            super.visitMethod(tree, nothing);
            method = null;
            return null;
        }

        @Override
        public Void visitMethodInvocation(MethodInvocationTree tree, Void nothing) {
            ExecutableElement called = (ExecutableElement) trees.getElement(getCurrentPath());
            boolean isConstructor = called.getSimpleName().contentEquals("<init>");
            String owner = called.getEnclosingElement().toString();
            if (owner.startsWith("InspectionOffice")) {
                holdsAt(tree, "no call outside a method", method != null);
                calls.computeIfAbsent(method, made -> new HashSet<>()).add(called);
            } else if (!isConstructor) {
                String name = owner + "." + called.getSimpleName();
                holdsAt(tree, "rule 4, the library: " + name, LIBRARY.contains(name));
            }
            return super.visitMethodInvocation(tree, nothing);
        }

        @Override
        public Void visitThrow(ThrowTree tree, Void nothing) {
            ExpressionTree thrown = tree.getExpression();
            boolean isNew = thrown instanceof NewClassTree;
            holdsAt(tree, "rule 6, what is thrown is new", isNew);
            if (isNew) {
                NewClassTree made = (NewClassTree) thrown;
                holdsAt(tree, "rule 6, an exception of the document",
                        EXCEPTIONS.contains(made.getIdentifier().toString()));
                holdsAt(tree, "rule 6, a written text", made.getArguments().size() == 1
                        && made.getArguments().get(0).getKind() == Tree.Kind.STRING_LITERAL);
            }
            holdsAt(tree, "rule 6, only a method of the face throws", method != null
                    && method.getModifiers().contains(Modifier.PUBLIC)
                    && !method.getSimpleName().contentEquals("<init>"));
            return super.visitThrow(tree, nothing);
        }

        @Override
        public Void visitNewClass(NewClassTree tree, Void nothing) {
            holdsAt(tree, "rule 12, nothing is made in a loop", loops == 0);
            holdsAt(tree, "rule 2, no anonymous class", tree.getClassBody() == null);
            return super.visitNewClass(tree, nothing);
        }

        @Override
        public Void visitNewArray(NewArrayTree tree, Void nothing) {
            holdsAt(tree, "rule 12, an array is made with its object alone", method == null);
            return super.visitNewArray(tree, nothing);
        }

        @Override
        public Void visitLiteral(LiteralTree tree, Void nothing) {
            if (tree.getValue() instanceof String) {
                holdsAt(tree, "rule 4, signs from 1 to 127", ((String) tree.getValue()).chars()
                        .allMatch(sign -> sign >= 1 && sign <= 127));
            }
            return super.visitLiteral(tree, nothing);
        }

        @Override
        public Void visitForLoop(ForLoopTree tree, Void nothing) {
            holdsAt(tree, "rule 9, a loop has a condition", tree.getCondition() != null);
            loops++;
            super.visitForLoop(tree, nothing);
            loops--;
            return null;
        }

        @Override
        public Void visitEnhancedForLoop(EnhancedForLoopTree tree, Void nothing) {
            loops++;
            super.visitEnhancedForLoop(tree, nothing);
            loops--;
            return null;
        }

        @Override
        public Void visitWhileLoop(WhileLoopTree tree, Void nothing) {
            loops++;
            super.visitWhileLoop(tree, nothing);
            loops--;
            return null;
        }
    }
}
