import com.sun.source.tree.*;
import com.sun.source.util.JavacTask;
import com.sun.source.util.SourcePositions;
import com.sun.source.util.TreePath;
import com.sun.source.util.TreePathScanner;
import com.sun.source.util.Trees;
import java.io.IOException;
import java.nio.file.Files;
import java.nio.file.Path;
import java.util.HashMap;
import java.util.HashSet;
import java.util.List;
import java.util.Map;
import java.util.Set;
import java.util.TreeSet;
import javax.lang.model.element.Element;
import javax.lang.model.element.ElementKind;
import javax.lang.model.element.ExecutableElement;
import javax.lang.model.element.Modifier;
import javax.lang.model.element.TypeElement;
import javax.lang.model.element.VariableElement;
import javax.tools.JavaCompiler;
import javax.tools.StandardJavaFileManager;
import javax.tools.ToolProvider;

/** The rules of LANGUAGE.md that a program can look at in the source, by the compiler's own tree of it. */
public final class LanguageTest {
    private static final Path SOURCE = Path.of("src/main/java/DoorMornings.java");
    private static final Checks CHECKS = new Checks();
    /** What the class uses of rule 4's list; who uses more of it adds it here. */
    private static final Set<String> LIBRARY = Set.of("Math.max", "Math.min", "Integer.bitCount", "Array.clone");
    private static final Set<String> PLAIN_TYPES =
        Set.of("void", "int", "long", "short", "byte", "char", "boolean", "int[]", "long[]", "char[]", "byte[]", "boolean[]");
    private static final Set<String> STATIC_TYPES =
        Set.of("int", "long", "boolean", "char", "java.lang.String", "int[]", "long[]", "char[]", "byte[]");
    private static final Set<String> LOOK_BEFORE_THEY_DIVIDE = Set.of("quotient", "greatestDivisor");
    private static final int MOST_PARAMETERS = 7, MOST_LINES = 60, MOST_DEEP = 8, MOST_CLASSES = 12, MOST_FIELDS = 20;

    public static void main(String[] args) throws IOException {
        plainLetters();
        Look look = look();
        CHECKS.holds("11: twelve classes at most: " + look.classes, look.classes <= MOST_CLASSES);
        CHECKS.holds("the calls of the face were seen", look.publics.size() == 24);
        for (ExecutableElement method : look.calls.keySet()) {
            boolean isPublic = method.getModifiers().contains(Modifier.PUBLIC);
            CHECKS.holds("1: no name of the face: " + method, isPublic || !look.publics.contains(method.getSimpleName().toString()));
            int deep = depth(look.calls, method, new HashSet<>());
            CHECKS.holds("8, 11: calls go eight deep at most, and none calls itself: " + method + " " + deep, deep <= MOST_DEEP);
        }
        CHECKS.end();
    }

    private static void plainLetters() throws IOException {
        String text = Files.readString(SOURCE);
        for (int i = 0; i < text.length(); i++) {
            if (text.charAt(i) > 126) CHECKS.holds("4: the source is plain letters at " + i, false);
        }
    }

    private static Look look() throws IOException {
        JavaCompiler compiler = ToolProvider.getSystemJavaCompiler();
        try (StandardJavaFileManager files = compiler.getStandardFileManager(null, null, null)) {
            JavacTask task = (JavacTask) compiler.getTask(null, files, null, List.of("-proc:none"), null, files.getJavaFileObjects(SOURCE));
            CompilationUnitTree unit = task.parse().iterator().next();
            task.analyze();
            Look look = new Look(unit, Trees.instance(task));
            look.scan(unit, null);
            return look;
        }
    }

    /** How many calls stand open at once at the most; far too many, if one calls itself. */
    private static int depth(Map<ExecutableElement, Set<ExecutableElement>> calls, ExecutableElement method, Set<ExecutableElement> open) {
        if (!open.add(method)) return 1000;
        int most = 0;
        for (ExecutableElement called : calls.getOrDefault(method, Set.of())) most = Math.max(most, depth(calls, called, open));
        open.remove(method);
        return most + 1;
    }

    private static final class Look extends TreePathScanner<Void, Void> {
        final Map<ExecutableElement, Set<ExecutableElement>> calls = new HashMap<>();
        final Set<String> publics = new TreeSet<>();
        int classes = 0;
        private final CompilationUnitTree unit;
        private final Trees trees;
        private ExecutableElement here = null;
        private int loops = 0;

        Look(CompilationUnitTree unit, Trees trees) {
            this.unit = unit;
            this.trees = trees;
        }

        private String at(Tree tree) {
            return " (line " + line(trees.getSourcePositions().getStartPosition(unit, tree)) + ")";
        }

        private long line(long position) {
            return unit.getLineMap().getLineNumber(position);
        }

        private void rule(String what, Tree tree, boolean is) {
            CHECKS.holds(what + at(tree), is);
        }

        private Void ruledOut(String what, Tree tree) {
            rule(what, tree, false);
            return null;
        }

        private Element element() {
            return trees.getElement(getCurrentPath());
        }

        private boolean isOwn(Element element) {
            for (Element e = element; e != null; e = e.getEnclosingElement()) {
                if (e instanceof TypeElement t && t.getQualifiedName().contentEquals("DoorMornings")) return true;
            }
            return false;
        }

        @Override public Void visitCompilationUnit(CompilationUnitTree tree, Void p) {
            rule("the file has no package line, no import and one class", tree,
                tree.getPackage() == null && tree.getImports().isEmpty() && tree.getTypeDecls().size() == 1);
            return super.visitCompilationUnit(tree, p);
        }

        @Override public Void visitClass(ClassTree tree, Void p) {
            classes++;
            Set<Modifier> is = tree.getModifiers().getFlags();
            boolean inside = element().getEnclosingElement() instanceof TypeElement;
            if (inside) {
                rule("1, 2: a class inside is static, private or package-visible", tree,
                    is.contains(Modifier.STATIC) && !is.contains(Modifier.PUBLIC) && !is.contains(Modifier.PROTECTED));
            } else {
                rule("1: the class is public and final", tree, is.contains(Modifier.PUBLIC) && is.contains(Modifier.FINAL));
            }
            rule("2: no class in a method", tree, here == null);
            long fields = tree.getMembers().stream()
                .filter(m -> m instanceof VariableTree v && !v.getModifiers().getFlags().contains(Modifier.STATIC)).count();
            rule("11: twenty fields at most", tree, fields <= MOST_FIELDS);
            rule("5: no block of a class", tree, tree.getMembers().stream().noneMatch(m -> m instanceof BlockTree));
            return super.visitClass(tree, p);
        }

        @Override public Void visitMethod(MethodTree tree, Void p) {
            here = (ExecutableElement) element();
            calls.putIfAbsent(here, new HashSet<>());
            boolean isPublic = here.getModifiers().contains(Modifier.PUBLIC);
            if (isPublic && here.getKind() == ElementKind.METHOD) publics.add(here.getSimpleName().toString());
            rule("11: seven parameters at most", tree, tree.getParameters().size() <= MOST_PARAMETERS);
            SourcePositions places = trees.getSourcePositions();
            long lines = line(places.getEndPosition(unit, tree)) - line(places.getStartPosition(unit, tree)) + 1;
            rule("11: sixty lines at most", tree, lines <= MOST_LINES);
            rule("6: no exception is named", tree, tree.getThrows().isEmpty());
            if (here.getKind() == ElementKind.METHOD) typeIsPlain(here.getReturnType().toString(), tree);
            super.visitMethod(tree, p);
            here = null;
            return null;
        }

        private void typeIsPlain(String type, Tree tree) {
            rule("3: a type of the rules: " + type, tree, PLAIN_TYPES.contains(type) || type.startsWith("DoorMornings."));
        }

        @Override public Void visitVariable(VariableTree tree, Void p) {
            VariableElement variable = (VariableElement) element();
            String type = variable.asType().toString();
            typeIsPlain(type, tree);
            if (variable.getKind() == ElementKind.FIELD) field(tree, variable, type);
            return super.visitVariable(tree, p);
        }

        private void field(VariableTree tree, VariableElement field, String type) {
            boolean outer = field.getEnclosingElement().getSimpleName().contentEquals("DoorMornings");
            Set<Modifier> is = field.getModifiers();
            boolean isStatic = is.contains(Modifier.STATIC);
            if (isStatic) {
                rule("5: a static field is final, and a constant", tree, is.contains(Modifier.FINAL) && STATIC_TYPES.contains(type));
                boolean writtenOut = type.endsWith("[]") ? tree.getInitializer() instanceof NewArrayTree array && array.getInitializers() != null
                    : field.getConstantValue() != null;
                rule("5: it is written out", tree, writtenOut);
            }
            if (outer) rule("1: no field but the constants is seen from outside", tree, is.contains(Modifier.PRIVATE) || isStatic && is.contains(Modifier.PUBLIC));
        }

        @Override public Void visitMethodInvocation(MethodInvocationTree tree, Void p) {
            ExecutableElement called = (ExecutableElement) element();
            if (isOwn(called)) {
                if (here != null) calls.get(here).add(called);
            } else if (called.getKind() == ElementKind.METHOD) {
                String name = called.getEnclosingElement().getSimpleName() + "." + called.getSimpleName();
                rule("4: of the library only what is allowed: " + name, tree, LIBRARY.contains(name));
            }
            return super.visitMethodInvocation(tree, p);
        }

        @Override public Void visitNewClass(NewClassTree tree, Void p) {
            Element made = trees.getElement(new TreePath(getCurrentPath(), tree.getIdentifier()));
            rule("2, 3: an object of an own class, without a body", tree, tree.getClassBody() == null && isOwn(made));
            madeInConstructors(tree);
            return super.visitNewClass(tree, p);
        }

        @Override public Void visitNewArray(NewArrayTree tree, Void p) {
            madeInConstructors(tree);
            rule("7: a row's length is a constant", tree, tree.getDimensions().stream().allMatch(d -> isConstant(d)));
            return super.visitNewArray(tree, p);
        }

        private boolean isConstant(ExpressionTree tree) {
            if (tree instanceof LiteralTree) return true;
            Element named = trees.getElement(new TreePath(getCurrentPath(), tree));
            return named instanceof VariableElement v && v.getConstantValue() instanceof Integer length && length >= 0;
        }

        private void madeInConstructors(Tree tree) {
            rule("12: objects are made in constructors alone", tree, (here == null || here.getKind() == ElementKind.CONSTRUCTOR) && loops == 0);
        }

        @Override public Void visitAssignment(AssignmentTree tree, Void p) {
            changes(tree.getVariable());
            return super.visitAssignment(tree, p);
        }

        @Override public Void visitCompoundAssignment(CompoundAssignmentTree tree, Void p) {
            changes(tree.getVariable());
            boolean divides = tree.getKind() == Tree.Kind.DIVIDE_ASSIGNMENT || tree.getKind() == Tree.Kind.REMAINDER_ASSIGNMENT;
            if (divides) divisor(tree.getExpression());
            return super.visitCompoundAssignment(tree, p);
        }

        @Override public Void visitUnary(UnaryTree tree, Void p) {
            changes(tree.getExpression());
            return super.visitUnary(tree, p);
        }

        private void changes(ExpressionTree variable) {
            if (!(variable instanceof ArrayAccessTree row)) return;
            Element named = trees.getElement(new TreePath(getCurrentPath(), row.getExpression()));
            rule("5: a static row is never changed", variable, named == null || !named.getModifiers().contains(Modifier.STATIC));
        }

        @Override public Void visitBinary(BinaryTree tree, Void p) {
            boolean divides = tree.getKind() == Tree.Kind.DIVIDE || tree.getKind() == Tree.Kind.REMAINDER;
            if (divides) divisor(tree.getRightOperand());
            return super.visitBinary(tree, p);
        }

        private void divisor(ExpressionTree tree) {
            boolean looksFirst = here != null && LOOK_BEFORE_THEY_DIVIDE.contains(here.getSimpleName().toString());
            rule("7: a divisor is a constant, or looked at before", tree, looksFirst || isConstant(tree));
        }

        @Override public Void visitTypeCast(TypeCastTree tree, Void p) {
            rule("6: casts of numbers alone", tree, tree.getType() instanceof PrimitiveTypeTree);
            return super.visitTypeCast(tree, p);
        }

        @Override public Void visitForLoop(ForLoopTree tree, Void p) {
            rule("9: a loop has a condition", tree, tree.getCondition() != null);
            loops++;
            super.visitForLoop(tree, p);
            loops--;
            return null;
        }

        @Override public Void visitWhileLoop(WhileLoopTree tree, Void p) {
            loops++;
            super.visitWhileLoop(tree, p);
            loops--;
            return null;
        }

        @Override public Void visitThrow(ThrowTree tree, Void p) { return ruledOut("6: no throw", tree); }

        @Override public Void visitTry(TryTree tree, Void p) { return ruledOut("6: no try", tree); }

        @Override public Void visitSynchronized(SynchronizedTree tree, Void p) { return ruledOut("6: no synchronized", tree); }

        @Override public Void visitAssert(AssertTree tree, Void p) { return ruledOut("6: no assert", tree); }

        @Override public Void visitLambdaExpression(LambdaExpressionTree tree, Void p) { return ruledOut("2: no lambda", tree); }

        @Override public Void visitMemberReference(MemberReferenceTree tree, Void p) { return ruledOut("2: no method reference", tree); }
    }
}
