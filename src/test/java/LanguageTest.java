import com.sun.source.tree.*;
import com.sun.source.util.JavacTask;
import com.sun.source.util.TreePath;
import com.sun.source.util.TreePathScanner;
import com.sun.source.util.TreeScanner;
import com.sun.source.util.Trees;
import java.io.File;
import java.util.ArrayList;
import java.util.HashMap;
import java.util.HashSet;
import java.util.LinkedHashSet;
import java.util.List;
import java.util.Map;
import java.util.Set;
import javax.lang.model.element.Element;
import javax.lang.model.element.ElementKind;
import javax.lang.model.element.ExecutableElement;
import javax.lang.model.element.Modifier;
import javax.lang.model.element.TypeElement;
import javax.lang.model.element.VariableElement;
import javax.lang.model.type.ArrayType;
import javax.lang.model.type.DeclaredType;
import javax.lang.model.type.TypeKind;
import javax.lang.model.type.TypeMirror;
import javax.tools.JavaCompiler;
import javax.tools.StandardJavaFileManager;
import javax.tools.ToolProvider;

/**
 * The rules of LANGUAGE.md as far as the compiler's own reading of the source shows them. Where the program needs less
 * than a rule allows, the test asks for the less: no try, no lists, no object made behind the constructor.
 */
public final class LanguageTest {
    private static final String SOURCE = "src/main/java/EnvelopePlanner.java";
    private static final Set<String> LIBRARY = Set.of("System.arraycopy", "Math.min", "Math.max");
    private static final Set<String> EXCEPTIONS = Set.of("IllegalStateException", "IllegalArgumentException",
        "IndexOutOfBoundsException", "ArithmeticException", "UnsupportedOperationException", "NoSuchElementException",
        "RuntimeException");

    private final Trees trees;
    private final CompilationUnitTree unit;
    private final Map<Element, Set<Element>> calls = new HashMap<>();
    private int classes;

    private LanguageTest(Trees trees, CompilationUnitTree unit) {
        this.trees = trees;
        this.unit = unit;
    }

    public static void main(String[] args) throws Exception {
        Checks.at(SOURCE);
        JavaCompiler compiler = ToolProvider.getSystemJavaCompiler();
        StandardJavaFileManager files = compiler.getStandardFileManager(null, null, null);
        JavacTask task = (JavacTask) compiler.getTask(null, files, null, List.of("-proc:none"), null,
            files.getJavaFileObjects(new File(SOURCE)));
        CompilationUnitTree unit = task.parse().iterator().next();
        task.analyze();
        new LanguageTest(Trees.instance(task), unit).checkAll();
        Checks.finish();
    }

    private void checkAll() throws Exception {
        String text = unit.getSourceFile().getCharContent(false).toString();
        rule(4, "only signs 1 to 127 stand in the file", unit, text.chars().allMatch(sign -> sign >= 1 && sign <= 127));
        rule(1, "there is no package line", unit, unit.getPackageName() == null);
        rule(1, "there is one class", unit, unit.getTypeDecls().size() == 1);
        for (ImportTree line : unit.getImports()) {
            rule(4, "the import is of the list", line,
                line.getQualifiedIdentifier().toString().equals("java.util.NoSuchElementException"));
        }
        new Reading().scan(new TreePath(unit), null);
        rule(11, "there are at most 12 classes", unit, classes <= 12);
        for (Element method : calls.keySet()) {
            int depth = depthOf(method, new LinkedHashSet<>());
            rule(11, "calls go at most 8 deep from " + method + ", not " + depth, unit, depth <= 8);
        }
    }

    private void rule(int number, String what, Tree where, boolean holds) {
        long line = where == unit ? 1
            : unit.getLineMap().getLineNumber(trees.getSourcePositions().getStartPosition(unit, where));
        Checks.eq("rule " + number + ", line " + line + ": " + what, holds ? 1 : 0, 1);
    }

    private int depthOf(Element method, Set<Element> open) {
        if (!open.add(method)) {
            rule(8, "no recursion: " + open, unit, false);
            return 0;
        }
        int deepest = 0;
        for (Element called : calls.getOrDefault(method, Set.of())) {
            deepest = Math.max(deepest, depthOf(called, open));
        }
        open.remove(method);
        return deepest + 1;
    }

    /** One walk through the source. */
    private final class Reading extends TreePathScanner<Void, Void> {
        @Override
        public Void visitClass(ClassTree tree, Void none) {
            classes++;
            boolean isInside = tree != unit.getTypeDecls().get(0);
            Set<Modifier> modifiers = tree.getModifiers().getFlags();
            rule(2, "no class without a name", tree, !tree.getSimpleName().isEmpty());
            rule(2, "a class inside is static", tree,
                !isInside || modifiers.contains(Modifier.STATIC));
            rule(1, "a class inside is not public", tree,
                !isInside || !modifiers.contains(Modifier.PUBLIC));
            long fields = tree.getMembers().stream().filter(m -> m instanceof VariableTree v && !isStatic(v)).count();
            rule(11, "a class has at most 20 fields", tree, fields <= 20);
            return super.visitClass(tree, none);
        }

        @Override
        public Void visitMethod(MethodTree tree, Void none) {
            calls.computeIfAbsent(trees.getElement(getCurrentPath()), key -> new HashSet<>());
            rule(11, "a method takes at most 7 parameters", tree, tree.getParameters().size() <= 7);
            long first = unit.getLineMap().getLineNumber(trees.getSourcePositions().getStartPosition(unit, tree));
            long last = unit.getLineMap().getLineNumber(trees.getSourcePositions().getEndPosition(unit, tree));
            rule(11, "a method has at most 60 lines", tree, last - first < 60);
            return super.visitMethod(tree, none);
        }

        @Override
        public Void visitVariable(VariableTree tree, Void none) {
            rule(3, "a type of the list", tree, isAllowed(trees.getElement(getCurrentPath()).asType()));
            if (isStatic(tree)) {
                VariableElement field = (VariableElement) trees.getElement(getCurrentPath());
                rule(5, "a static field is a constant", tree, field.getConstantValue() != null);
            }
            return super.visitVariable(tree, none);
        }

        @Override
        public Void visitBlock(BlockTree tree, Void none) {
            rule(5, "no initialiser block", tree, !(getCurrentPath().getParentPath().getLeaf() instanceof ClassTree));
            return super.visitBlock(tree, none);
        }

        @Override
        public Void visitNewClass(NewClassTree tree, Void none) {
            ExecutableElement made = (ExecutableElement) trees.getElement(getCurrentPath());
            boolean isThrown = getCurrentPath().getParentPath().getLeaf() instanceof ThrowTree;
            rule(12, "all but exceptions is made with the planner", tree, isThrown || isMakingThePlanner());
            rule(4, "a class of its own is made", tree, isThrown || isOwn(made));
            if (isOwn(made)) {
                callsOfThisPlace().add(made);
            }
            return super.visitNewClass(tree, none);
        }

        @Override
        public Void visitNewArray(NewArrayTree tree, Void none) {
            rule(12, "all rows are made with the planner", tree, isMakingThePlanner());
            for (ExpressionTree length : tree.getDimensions()) {
                rule(7, "a row has a written length", tree, isWrittenOut(length));
            }
            return super.visitNewArray(tree, none);
        }

        @Override
        public Void visitMethodInvocation(MethodInvocationTree tree, Void none) {
            ExecutableElement called = (ExecutableElement) trees.getElement(getCurrentPath());
            if (called.getKind() == ElementKind.CONSTRUCTOR) {
                return super.visitMethodInvocation(tree, none);
            }
            rule(12, "a constructor calls no method", tree, !isMakingThePlanner());
            if (isOwn(called)) {
                callsOfThisPlace().add(called);
            } else {
                String name = called.getEnclosingElement().getSimpleName() + "." + called.getSimpleName();
                rule(4, name + " is of the list", tree, LIBRARY.contains(name));
            }
            return super.visitMethodInvocation(tree, none);
        }

        @Override
        public Void visitThrow(ThrowTree tree, Void none) {
            boolean isNew = tree.getExpression() instanceof NewClassTree made
                && EXCEPTIONS.contains(made.getIdentifier().toString())
                && made.getArguments().stream().allMatch(text -> text instanceof LiteralTree)
                && made.getArguments().size() <= 1;
            rule(6, "throw new E(\"a written text\")", tree, isNew);
            rule(6, "no throw in a constructor", tree, !isMakingThePlanner());
            return super.visitThrow(tree, none);
        }

        @Override
        public Void visitTry(TryTree tree, Void none) {
            rule(6, "no try, as none is needed", tree, false);
            return super.visitTry(tree, none);
        }

        @Override
        public Void visitSynchronized(SynchronizedTree tree, Void none) {
            rule(6, "no synchronized", tree, false);
            return super.visitSynchronized(tree, none);
        }

        @Override
        public Void visitAssert(AssertTree tree, Void none) {
            rule(6, "no assert", tree, false);
            return super.visitAssert(tree, none);
        }

        @Override
        public Void visitLambdaExpression(LambdaExpressionTree tree, Void none) {
            rule(2, "no lambda", tree, false);
            return super.visitLambdaExpression(tree, none);
        }

        @Override
        public Void visitMemberReference(MemberReferenceTree tree, Void none) {
            rule(2, "no method reference", tree, false);
            return super.visitMemberReference(tree, none);
        }

        @Override
        public Void visitTypeCast(TypeCastTree tree, Void none) {
            rule(6, "a cast of a number", tree, tree.getType() instanceof PrimitiveTypeTree);
            return super.visitTypeCast(tree, none);
        }

        @Override
        public Void visitForLoop(ForLoopTree tree, Void none) {
            rule(9, "a loop has an end", tree, tree.getCondition() != null && !(tree.getCondition() instanceof LiteralTree));
            return super.visitForLoop(tree, none);
        }

        @Override
        public Void visitWhileLoop(WhileLoopTree tree, Void none) {
            rule(9, "a loop has an end", tree, tree.getCondition().toString().contains("<"));
            return super.visitWhileLoop(tree, none);
        }

        @Override
        public Void visitDoWhileLoop(DoWhileLoopTree tree, Void none) {
            rule(9, "a loop has an end", tree, tree.getCondition().toString().contains("<"));
            return super.visitDoWhileLoop(tree, none);
        }

        @Override
        public Void visitBinary(BinaryTree tree, Void none) {
            boolean isText = isText(tree.getLeftOperand()) || isText(tree.getRightOperand());
            rule(10, "texts are not joined or compared by a sign", tree, !isText);
            if (tree.getKind() == Tree.Kind.DIVIDE || tree.getKind() == Tree.Kind.REMAINDER) {
                divisor(tree.getRightOperand());
            }
            return super.visitBinary(tree, none);
        }

        @Override
        public Void visitCompoundAssignment(CompoundAssignmentTree tree, Void none) {
            rule(10, "texts are not joined by a sign", tree, !isText(tree.getVariable()));
            if (tree.getKind() == Tree.Kind.DIVIDE_ASSIGNMENT || tree.getKind() == Tree.Kind.REMAINDER_ASSIGNMENT) {
                divisor(tree.getExpression());
            }
            return super.visitCompoundAssignment(tree, none);
        }

        @Override
        public Void visitArrayAccess(ArrayAccessTree tree, Void none) {
            for (IdentifierTree name : namesIn(tree.getIndex())) {
                rule(7, "the index " + name + " is looked at before", tree, isLookedAt(name, tree, 0));
            }
            return super.visitArrayAccess(tree, none);
        }

        private void divisor(ExpressionTree divisor) {
            ExpressionTree plain = divisor;
            while (plain instanceof TypeCastTree cast) {
                plain = cast.getExpression();
            }
            String name = plain.toString();
            boolean isTested = conditionsAhead(divisor).stream().anyMatch(c -> c.toString().contains(name));
            rule(7, "the divisor " + name + " is not 0", divisor, isWrittenOut(plain) || isTested);
        }

        /** A constant, or a number that is made of constants. */
        private boolean isWrittenOut(Tree number) {
            if (number instanceof BinaryTree two) {
                return isWrittenOut(two.getLeftOperand()) && isWrittenOut(two.getRightOperand());
            }
            return number instanceof LiteralTree || constantOf(number) != null;
        }

        private Object constantOf(Tree name) {
            Element named = trees.getElement(new TreePath(getCurrentPath(), name));
            return named instanceof VariableElement variable ? variable.getConstantValue() : null;
        }

        /** A condition ahead of the place names it, or it was made of names that are looked at. */
        private boolean isLookedAt(IdentifierTree name, Tree place, int depth) {
            if (constantOf(name) != null) {
                return true;
            }
            for (Tree condition : conditionsAhead(place)) {
                if (namesIn(condition).stream().anyMatch(n -> n.getName().equals(name.getName()))) {
                    return true;
                }
            }
            VariableTree made = localOf(name, place);
            return depth < 5 && made != null && !namesIn(made.getInitializer()).isEmpty()
                && namesIn(made.getInitializer()).stream().allMatch(n -> isLookedAt(n, made, depth + 1));
        }

        private VariableTree localOf(IdentifierTree name, Tree place) {
            List<VariableTree> found = new ArrayList<>();
            new TreeScanner<Void, Void>() {
                @Override
                public Void visitVariable(VariableTree tree, Void none) {
                    if (tree.getName().equals(name.getName()) && tree.getInitializer() != null
                            && endOf(tree) <= startOf(place)) {
                        found.add(tree);
                    }
                    return super.visitVariable(tree, none);
                }
            }.scan(methodHere(), null);
            return found.size() == 1 ? found.get(0) : null;
        }

        /** The conditions of this method that stand ahead of a place. */
        private List<Tree> conditionsAhead(Tree place) {
            List<Tree> conditions = new ArrayList<>();
            new TreeScanner<Void, Void>() {
                private void keep(Tree condition) {
                    if (condition != null && startOf(condition) < startOf(place)) {
                        conditions.add(condition);
                    }
                }

                @Override
                public Void visitIf(IfTree tree, Void none) {
                    keep(tree.getCondition());
                    return super.visitIf(tree, none);
                }

                @Override
                public Void visitForLoop(ForLoopTree tree, Void none) {
                    keep(tree.getCondition());
                    return super.visitForLoop(tree, none);
                }

                @Override
                public Void visitWhileLoop(WhileLoopTree tree, Void none) {
                    keep(tree.getCondition());
                    return super.visitWhileLoop(tree, none);
                }

                @Override
                public Void visitBinary(BinaryTree tree, Void none) {
                    keep(tree.getKind() == Tree.Kind.CONDITIONAL_AND ? tree.getLeftOperand() : null);
                    return super.visitBinary(tree, none);
                }

                @Override
                public Void visitConditionalExpression(ConditionalExpressionTree tree, Void none) {
                    keep(tree.getCondition());
                    return super.visitConditionalExpression(tree, none);
                }
            }.scan(methodHere(), null);
            return conditions;
        }

        private List<IdentifierTree> namesIn(Tree tree) {
            List<IdentifierTree> names = new ArrayList<>();
            new TreeScanner<Void, Void>() {
                @Override
                public Void visitIdentifier(IdentifierTree name, Void none) {
                    names.add(name);
                    return null;
                }
            }.scan(tree, null);
            return names;
        }

        private boolean isMakingThePlanner() {
            MethodTree method = methodHere();
            return method == null || method.getReturnType() == null;
        }

        private MethodTree methodHere() {
            for (TreePath at = getCurrentPath(); at != null; at = at.getParentPath()) {
                if (at.getLeaf() instanceof MethodTree method) {
                    return method;
                }
            }
            return null;
        }

        /** What this method calls; a field is made by the constructors of its class. */
        private Set<Element> callsOfThisPlace() {
            for (TreePath at = getCurrentPath(); at != null; at = at.getParentPath()) {
                Element here = at.getLeaf() instanceof MethodTree ? trees.getElement(at) : null;
                if (at.getLeaf() instanceof ClassTree) {
                    here = trees.getElement(at).getEnclosedElements().stream()
                        .filter(e -> e.getKind() == ElementKind.CONSTRUCTOR).findFirst().orElseThrow();
                }
                if (here != null) {
                    return calls.computeIfAbsent(here, key -> new HashSet<>());
                }
            }
            throw new IllegalStateException("a call outside of a class");
        }

        private boolean isOwn(Element member) {
            return ((TypeElement) member.getEnclosingElement()).getQualifiedName().toString()
                .matches("EnvelopePlanner(\\..*)?");
        }

        private boolean isAllowed(TypeMirror type) {
            if (type instanceof ArrayType array) {
                return isAllowed(array.getComponentType()) && !(array.getComponentType() instanceof ArrayType);
            }
            if (type.getKind() == TypeKind.DECLARED) {
                String name = ((TypeElement) ((DeclaredType) type).asElement()).getQualifiedName().toString();
                return name.equals("java.lang.String") || name.matches("EnvelopePlanner(\\..*)?");
            }
            return type.getKind().isPrimitive();
        }

        private boolean isText(Tree operand) {
            TypeMirror type = trees.getTypeMirror(new TreePath(getCurrentPath(), operand));
            return type != null && type.toString().equals("java.lang.String");
        }

        private boolean isStatic(VariableTree field) {
            return field.getModifiers().getFlags().contains(Modifier.STATIC);
        }

        private long startOf(Tree tree) {
            return trees.getSourcePositions().getStartPosition(unit, tree);
        }

        private long endOf(Tree tree) {
            return trees.getSourcePositions().getEndPosition(unit, tree);
        }
    }
}
