import com.sun.source.tree.AssertTree;
import com.sun.source.tree.BinaryTree;
import com.sun.source.tree.ClassTree;
import com.sun.source.tree.CompilationUnitTree;
import com.sun.source.tree.CompoundAssignmentTree;
import com.sun.source.tree.DoWhileLoopTree;
import com.sun.source.tree.ExpressionTree;
import com.sun.source.tree.ForLoopTree;
import com.sun.source.tree.ImportTree;
import com.sun.source.tree.LambdaExpressionTree;
import com.sun.source.tree.LiteralTree;
import com.sun.source.tree.MemberReferenceTree;
import com.sun.source.tree.MemberSelectTree;
import com.sun.source.tree.MethodInvocationTree;
import com.sun.source.tree.MethodTree;
import com.sun.source.tree.NewClassTree;
import com.sun.source.tree.SynchronizedTree;
import com.sun.source.tree.ThrowTree;
import com.sun.source.tree.Tree;
import com.sun.source.tree.TryTree;
import com.sun.source.tree.TypeCastTree;
import com.sun.source.tree.VariableTree;
import com.sun.source.tree.WhileLoopTree;
import com.sun.source.util.JavacTask;
import com.sun.source.util.TreePathScanner;
import com.sun.source.util.Trees;
import java.nio.file.Path;
import java.util.HashSet;
import java.util.List;
import java.util.Map;
import java.util.Set;
import java.util.TreeMap;
import java.util.TreeSet;
import javax.lang.model.element.Element;
import javax.lang.model.element.ElementKind;
import javax.lang.model.element.Modifier;
import javax.lang.model.type.TypeKind;
import javax.lang.model.type.TypeMirror;
import javax.tools.JavaCompiler;
import javax.tools.StandardJavaFileManager;
import javax.tools.ToolProvider;

/**
 * Rules of LANGUAGE.md that can be seen in the program's text, by javac's own reading of it. It is
 * stricter than they are where the program does without what they leave: no try, no while, no import,
 * no recursion, no cast but of numbers. The argument is the project's folder.
 */
public final class LanguageTest {
    private static final Check CHECK = new Check();

    private static final Map<String, Set<String>> LIBRARY = Map.of(
            "java.lang.StringBuilder", Set.of("append", "charAt", "setCharAt", "setLength", "deleteCharAt", "reverse",
                    "length", "toString"),
            "java.lang.Long", Set.of("bitCount", "compare", "max", "min"),
            "java.lang.Integer", Set.of("bitCount", "compare", "max", "min"));

    private static final Set<String> EXCEPTIONS = Set.of("IllegalStateException", "IllegalArgumentException",
            "IndexOutOfBoundsException");

    public static void main(String[] args) throws Exception {
        Path file = Path.of(args.length > 0 ? args[0] : ".").resolve("src/main/java/MirrorCards.java");
        JavaCompiler compiler = ToolProvider.getSystemJavaCompiler();
        try (StandardJavaFileManager files = compiler.getStandardFileManager(null, null, null)) {
            JavacTask task = (JavacTask) compiler.getTask(null, files, null, List.of("--release", "17"), null,
                    files.getJavaFileObjects(file));
            CompilationUnitTree unit = task.parse().iterator().next();
            task.analyze();
            Reader reader = new Reader(unit, Trees.instance(task));
            reader.scan(unit, null);
            reader.wholeFile();
        }
        CHECK.end();
    }

    /** Goes through the program once, with all that the rules say of a single place in it. */
    private static final class Reader extends TreePathScanner<Void, Void> {
        private final CompilationUnitTree unit;
        private final Trees trees;
        private final Map<String, Set<String>> calls = new TreeMap<>();
        private String method = "";
        private boolean inConstructor;
        private int classes;

        Reader(CompilationUnitTree unit, Trees trees) {
            this.unit = unit;
            this.trees = trees;
        }

        private long lineOf(long position) {
            return unit.getLineMap().getLineNumber(position);
        }

        private String at(Tree tree) {
            return " (line " + lineOf(trees.getSourcePositions().getStartPosition(unit, tree)) + ")";
        }

        private void ruledOut(String what, Tree tree) {
            CHECK.same("rule", "", what + at(tree));
        }

        private Element elementOf(Tree tree) {
            return trees.getElement(trees.getPath(unit, tree));
        }

        private TypeMirror typeOf(Tree tree) {
            return trees.getTypeMirror(trees.getPath(unit, tree));
        }

        void wholeFile() {
            CHECK.isTrue("rule 2: no package", unit.getPackageName() == null);
            CHECK.same("rule 1: one class in the file", 1, unit.getTypeDecls().size());
            CHECK.isTrue("rule 11: at most twelve classes", classes <= 12);
            for (String each : calls.keySet()) {
                int depth = depthOf(each, new HashSet<>());
                CHECK.isTrue("rule 11: " + each + " calls at most eight deep, not " + depth, depth <= 8);
            }
        }

        /** How deep the calls go that a method makes, itself included; far too deep if it comes back to itself. */
        private int depthOf(String name, Set<String> open) {
            if (!open.add(name)) {
                return 1000;
            }
            int deepest = 0;
            for (String called : calls.getOrDefault(name, Set.of())) {
                deepest = Math.max(deepest, depthOf(called, open));
            }
            open.remove(name);
            return deepest + 1;
        }

        @Override
        public Void visitClass(ClassTree tree, Void none) {
            classes++;
            int fields = 0;
            for (Tree member : tree.getMembers()) {
                if (member instanceof VariableTree) {
                    VariableTree field = (VariableTree) member;
                    boolean isStatic = field.getModifiers().getFlags().contains(Modifier.STATIC);
                    fields += isStatic ? 0 : 1;
                    CHECK.isTrue("rule 5: a constant is written out" + at(field), !isStatic || isConstant(field));
                }
                CHECK.isTrue("rule 5: no initialiser block" + at(member), member.getKind() != Tree.Kind.BLOCK);
            }
            CHECK.isTrue("rule 11: at most twenty fields" + at(tree), fields <= 20);
            return super.visitClass(tree, none);
        }

        private static boolean isConstant(VariableTree field) {
            return field.getModifiers().getFlags().contains(Modifier.FINAL) && field.getInitializer() != null
                    && Set.of("int", "long", "boolean", "char", "String").contains(field.getType().toString());
        }

        @Override
        public Void visitMethod(MethodTree tree, Void none) {
            Element element = elementOf(tree);
            method = nameOf(element);
            calls.putIfAbsent(method, new TreeSet<>());
            inConstructor = element.getKind() == ElementKind.CONSTRUCTOR;
            CHECK.isTrue("rule 11: at most seven parameters" + at(tree), tree.getParameters().size() <= 7);
            long start = trees.getSourcePositions().getStartPosition(unit, tree);
            long end = trees.getSourcePositions().getEndPosition(unit, tree);
            if (end >= 0) {
                CHECK.isTrue("rule 11: a method is short" + at(tree), lineOf(end) - lineOf(start) < 60);
            }
            return super.visitMethod(tree, none);
        }

        private static String nameOf(Element element) {
            return element.getEnclosingElement() + "." + element;
        }

        @Override
        public Void visitMethodInvocation(MethodInvocationTree tree, Void none) {
            Element called = elementOf(tree.getMethodSelect());
            String owner = ownerOf(called, tree.getMethodSelect());
            String name = called.getSimpleName().toString();
            calls.get(method).add(nameOf(called));
            boolean own = owner.startsWith("MirrorCards");
            boolean listed = LIBRARY.getOrDefault(owner, Set.of()).contains(name);
            // the constructor that javac gives each class calls that of Object
            boolean ofObject = owner.equals("java.lang.Object") && name.equals("<init>");
            CHECK.isTrue("rule 4: " + owner + "." + name + at(tree), own || listed || ofObject);
            return super.visitMethodInvocation(tree, none);
        }

        /** The class by which a method is called, though it may have it from a class above. */
        private String ownerOf(Element called, ExpressionTree select) {
            if (select instanceof MemberSelectTree) {
                return typeOf(((MemberSelectTree) select).getExpression()).toString();
            }
            return called.getEnclosingElement().toString();
        }

        @Override
        public Void visitNewClass(NewClassTree tree, Void none) {
            String type = typeOf(tree).toString();
            boolean thrown = getCurrentPath().getParentPath().getLeaf() instanceof ThrowTree;
            boolean fine = thrown || type.startsWith("MirrorCards.") || type.equals("java.lang.StringBuilder");
            CHECK.isTrue("rule 3: new " + type + at(tree), fine);
            CHECK.isTrue("rule 2: no anonymous class" + at(tree), tree.getClassBody() == null);
            calls.get(method).add(nameOf(elementOf(tree)));
            return super.visitNewClass(tree, none);
        }

        @Override
        public Void visitThrow(ThrowTree tree, Void none) {
            CHECK.isFalse("rule 6: no throw in a constructor" + at(tree), inConstructor);
            ExpressionTree thrown = tree.getExpression();
            boolean made = thrown instanceof NewClassTree;
            CHECK.isTrue("rule 6: throw new" + at(tree), made);
            if (made) {
                NewClassTree exception = (NewClassTree) thrown;
                CHECK.isTrue("rule 6: the document's exceptions alone" + at(tree),
                        EXCEPTIONS.contains(exception.getIdentifier().toString()));
                CHECK.isTrue("rule 6: a written text" + at(tree), exception.getArguments().size() == 1
                        && exception.getArguments().get(0) instanceof LiteralTree);
            }
            return super.visitThrow(tree, none);
        }

        @Override
        public Void visitVariable(VariableTree tree, Void none) {
            String type = elementOf(tree).asType().toString();
            String element = type.endsWith("[]") ? type.substring(0, type.length() - 2) : type;
            boolean known = Set.of("int", "long", "boolean", "char", "double").contains(element)
                    || Set.of("java.lang.String", "java.lang.StringBuilder").contains(type)
                    || element.startsWith("MirrorCards.");
            CHECK.isTrue("rule 3: the type " + type + at(tree), known);
            return super.visitVariable(tree, none);
        }

        @Override
        public Void visitBinary(BinaryTree tree, Void none) {
            CHECK.isTrue("rule 10: texts are not joined by +" + at(tree), typeOf(tree).getKind() != TypeKind.DECLARED);
            boolean divides = tree.getKind() == Tree.Kind.DIVIDE || tree.getKind() == Tree.Kind.REMAINDER;
            boolean byConstant = tree.getRightOperand().toString().matches("[A-Z_]+|[1-9][0-9]*");
            CHECK.isTrue("rule 7: a divisor is a constant" + at(tree), !divides || byConstant);
            return super.visitBinary(tree, none);
        }

        @Override
        public Void visitCompoundAssignment(CompoundAssignmentTree tree, Void none) {
            CHECK.isTrue("rule 10: texts are not joined by +=" + at(tree),
                    typeOf(tree).getKind() != TypeKind.DECLARED);
            boolean divides = tree.getKind() == Tree.Kind.DIVIDE_ASSIGNMENT
                    || tree.getKind() == Tree.Kind.REMAINDER_ASSIGNMENT;
            CHECK.isFalse("rule 7: a divisor is a constant" + at(tree), divides);
            return super.visitCompoundAssignment(tree, none);
        }

        /** A counter that the head alone moves, against a bound that stands in the head. */
        @Override
        public Void visitForLoop(ForLoopTree tree, Void none) {
            boolean counts = tree.getCondition() != null && tree.getInitializer().size() == 1
                    && tree.getInitializer().get(0) instanceof VariableTree && tree.getUpdate().size() == 1;
            if (counts) {
                String counter = ((VariableTree) tree.getInitializer().get(0)).getName().toString();
                String moved = "(?s).*\\b" + counter + " *([-+*/%&|^]=|<<=|>>=|=(?!=)|\\+\\+|--).*";
                counts = tree.getUpdate().get(0).toString().equals(counter + "++;")
                        && tree.getCondition().toString().matches(counter + " ([+] [A-Z]+ )?<=? .*")
                        && !tree.getStatement().toString().matches(moved);
            }
            CHECK.isTrue("rule 9: a loop counts up to a bound" + at(tree), counts);
            return super.visitForLoop(tree, none);
        }

        @Override
        public Void visitTypeCast(TypeCastTree tree, Void none) {
            CHECK.isTrue("rule 6: no cast but of numbers" + at(tree), typeOf(tree).getKind().isPrimitive());
            return super.visitTypeCast(tree, none);
        }

        @Override
        public Void visitWhileLoop(WhileLoopTree tree, Void none) {
            ruledOut("while", tree);
            return super.visitWhileLoop(tree, none);
        }

        @Override
        public Void visitDoWhileLoop(DoWhileLoopTree tree, Void none) {
            ruledOut("do", tree);
            return super.visitDoWhileLoop(tree, none);
        }

        @Override
        public Void visitImport(ImportTree tree, Void none) {
            ruledOut("import", tree);
            return super.visitImport(tree, none);
        }

        @Override
        public Void visitTry(TryTree tree, Void none) {
            ruledOut("try", tree);
            return super.visitTry(tree, none);
        }

        @Override
        public Void visitAssert(AssertTree tree, Void none) {
            ruledOut("assert", tree);
            return super.visitAssert(tree, none);
        }

        @Override
        public Void visitSynchronized(SynchronizedTree tree, Void none) {
            ruledOut("synchronized", tree);
            return super.visitSynchronized(tree, none);
        }

        @Override
        public Void visitLambdaExpression(LambdaExpressionTree tree, Void none) {
            ruledOut("lambda", tree);
            return super.visitLambdaExpression(tree, none);
        }

        @Override
        public Void visitMemberReference(MemberReferenceTree tree, Void none) {
            ruledOut("method reference", tree);
            return super.visitMemberReference(tree, none);
        }
    }
}
