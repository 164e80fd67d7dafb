import com.sun.source.tree.AnnotationTree;
import com.sun.source.tree.AssertTree;
import com.sun.source.tree.BlockTree;
import com.sun.source.tree.ClassTree;
import com.sun.source.tree.CompilationUnitTree;
import com.sun.source.tree.ImportTree;
import com.sun.source.tree.LambdaExpressionTree;
import com.sun.source.tree.MemberReferenceTree;
import com.sun.source.tree.MethodInvocationTree;
import com.sun.source.tree.MethodTree;
import com.sun.source.tree.NewArrayTree;
import com.sun.source.tree.NewClassTree;
import com.sun.source.tree.SynchronizedTree;
import com.sun.source.tree.ThrowTree;
import com.sun.source.tree.Tree;
import com.sun.source.tree.TryTree;
import com.sun.source.tree.VariableTree;
import com.sun.source.util.JavacTask;
import com.sun.source.util.TreePath;
import com.sun.source.util.TreePathScanner;
import com.sun.source.util.Trees;
import java.io.IOException;
import java.nio.file.Path;
import java.util.HashMap;
import java.util.LinkedHashSet;
import java.util.List;
import java.util.Map;
import java.util.Set;
import javax.lang.model.element.Element;
import javax.lang.model.element.ElementKind;
import javax.lang.model.element.Modifier;
import javax.lang.model.type.ArrayType;
import javax.lang.model.type.DeclaredType;
import javax.lang.model.type.TypeMirror;
import javax.tools.JavaCompiler;
import javax.tools.StandardJavaFileManager;
import javax.tools.ToolProvider;

/** The class keeps to those rules of LANGUAGE.md that can be seen in its text. */
final class LanguageTest {
    private static final Checks CHECKS = new Checks();
    private static final Path SOURCE = Path.of("src/main/java/MaskEdges.java");
    private static final Set<String> LIBRARY = Set.of("java.lang.Math.max(int,int)",
        "java.lang.Math.min(int,int)", "java.lang.Math.abs(int)", "java.lang.Long.bitCount(long)");
    private static final int MOST_PARAMETERS = 7;
    private static final int MOST_LINES = 60;
    private static final int MOST_CLASSES = 12;
    private static final int MOST_FIELDS = 20;
    private static final int MOST_DEPTH = 8;

    public static void main(String[] args) throws IOException {
        JavaCompiler compiler = ToolProvider.getSystemJavaCompiler();
        try (StandardJavaFileManager files = compiler.getStandardFileManager(null, null, null)) {
            JavacTask task = (JavacTask) compiler.getTask(null, files, null, List.of("-proc:none"), null,
                files.getJavaFileObjects(SOURCE));
            CompilationUnitTree unit = task.parse().iterator().next();
            task.analyze();
            Rules rules = new Rules(Trees.instance(task), unit);
            rules.scan(unit, null);
            CHECKS.sentence("one file, without a package line");
            CHECKS.due("package line", unit.getPackage() == null, true);
            CHECKS.due("classes that stand in no other", unit.getTypeDecls().size(), 1);
            CHECKS.sentence("the file has at most some twelve classes");
            CHECKS.due("classes, " + rules.classes, rules.classes <= MOST_CLASSES, true);
            CHECKS.sentence("calls that are no recursion go at most eight deep");
            for (Element method : rules.calls.keySet()) {
                int depth = rules.depthOf(method, 1);
                CHECKS.due(method + " goes " + depth + " deep", depth <= MOST_DEPTH, true);
            }
        }
        CHECKS.finish();
    }

    private static final class Rules extends TreePathScanner<Void, Void> {
        private final Trees trees;
        private final CompilationUnitTree unit;
        private final Map<Element, Set<Element>> calls = new HashMap<>();
        private Element method;
        private int classes;

        Rules(Trees trees, CompilationUnitTree unit) {
            this.trees = trees;
            this.unit = unit;
        }

        /** Beyond the bound it stops, so a method that calls itself is told as too deep. */
        int depthOf(Element caller, int depth) {
            int deepest = depth;
            for (Element called : calls.getOrDefault(caller, Set.of())) {
                if (depth <= MOST_DEPTH) {
                    deepest = Math.max(deepest, depthOf(called, depth + 1));
                }
            }
            return deepest;
        }

        private void refuse(String rule, Tree tree) {
            CHECKS.sentence(rule);
            CHECKS.due("line " + lineOf(trees.getSourcePositions().getStartPosition(unit, tree))
                + ": " + tree.getKind(), true, false);
        }

        private long lineOf(long position) {
            return unit.getLineMap().getLineNumber(position);
        }

        private Element element() {
            return trees.getElement(getCurrentPath());
        }

        private boolean isOwn(Element element) {
            TreePath path = trees.getPath(element);
            return path != null && path.getCompilationUnit() == unit;
        }

        @Override
        public Void visitImport(ImportTree tree, Void none) {
            refuse("The library: only what stands here", tree);
            return super.visitImport(tree, none);
        }

        @Override
        public Void visitThrow(ThrowTree tree, Void none) {
            refuse("No throw", tree);
            return super.visitThrow(tree, none);
        }

        @Override
        public Void visitTry(TryTree tree, Void none) {
            refuse("No throw, try, catch", tree);
            return super.visitTry(tree, none);
        }

        @Override
        public Void visitSynchronized(SynchronizedTree tree, Void none) {
            refuse("synchronized", tree);
            return super.visitSynchronized(tree, none);
        }

        @Override
        public Void visitAssert(AssertTree tree, Void none) {
            refuse("assert", tree);
            return super.visitAssert(tree, none);
        }

        @Override
        public Void visitLambdaExpression(LambdaExpressionTree tree, Void none) {
            refuse("no lambda", tree);
            return super.visitLambdaExpression(tree, none);
        }

        @Override
        public Void visitMemberReference(MemberReferenceTree tree, Void none) {
            refuse("no method reference", tree);
            return super.visitMemberReference(tree, none);
        }

        @Override
        public Void visitAnnotation(AnnotationTree tree, Void none) {
            refuse("The library: only what stands here", tree);
            return super.visitAnnotation(tree, none);
        }

        @Override
        public Void visitBlock(BlockTree tree, Void none) {
            if (tree.isStatic()) {
                refuse("no static initialiser block", tree);
            }
            return super.visitBlock(tree, none);
        }

        @Override
        public Void visitClass(ClassTree tree, Void none) {
            classes++;
            Element shown = element();
            boolean outer = getCurrentPath().getParentPath().getLeaf() == unit;
            CHECKS.sentence("No inner class that isn't static, no local or anonymous class");
            CHECKS.due(tree.getSimpleName() + " is static or the outer one",
                outer || shown.getEnclosingElement().getKind() == ElementKind.CLASS
                    && shown.getModifiers().contains(Modifier.STATIC), true);
            long fields = shown.getEnclosedElements().stream().filter(inside ->
                inside.getKind() == ElementKind.FIELD
                    && !inside.getModifiers().contains(Modifier.STATIC)).count();
            CHECKS.sentence("a class some twenty fields beside its constants");
            CHECKS.due(tree.getSimpleName() + " has " + fields, fields <= MOST_FIELDS, true);
            return super.visitClass(tree, none);
        }

        @Override
        public Void visitMethod(MethodTree tree, Void none) {
            long begin = trees.getSourcePositions().getStartPosition(unit, tree);
            long end = trees.getSourcePositions().getEndPosition(unit, tree);
            CHECKS.sentence("A method takes at most seven parameters");
            CHECKS.due(tree.getName() + " takes " + tree.getParameters().size(),
                tree.getParameters().size() <= MOST_PARAMETERS, true);
            CHECKS.sentence("Methods stay short (some sixty lines)");
            long lines = end < 0 ? 1 : lineOf(end) - lineOf(begin) + 1;
            CHECKS.due(tree.getName() + " has " + lines, lines <= MOST_LINES, true);
            CHECKS.sentence("Types: int, long, .. boolean .. arrays of these and of your own classes");
            CHECKS.due(tree.getName() + " answers a listed type",
                tree.getReturnType() == null || isListed(typeOf(tree.getReturnType())), true);
            method = element();
            calls.put(method, new LinkedHashSet<>());
            super.visitMethod(tree, none);
            method = null;
            return null;
        }

        @Override
        public Void visitVariable(VariableTree tree, Void none) {
            Element variable = element();
            CHECKS.sentence("Types: int, long, .. boolean .. arrays of these and of your own classes");
            CHECKS.due(tree.getName() + " is of " + variable.asType(), isListed(variable.asType()), true);
            if (variable.getModifiers().contains(Modifier.STATIC)) {
                CHECKS.sentence("Static fields are final: constants of int, long, boolean");
                CHECKS.due(tree + " is final", variable.getModifiers().contains(Modifier.FINAL), true);
                CHECKS.due(tree + " is a number", variable.asType().getKind().isPrimitive(), true);
            }
            return super.visitVariable(tree, none);
        }

        private TypeMirror typeOf(Tree tree) {
            return trees.getTypeMirror(new TreePath(getCurrentPath(), tree));
        }

        private boolean isListed(TypeMirror type) {
            switch (type.getKind()) {
                case INT:
                case LONG:
                case BOOLEAN:
                case VOID:
                    return true;
                case ARRAY:
                    TypeMirror part = ((ArrayType) type).getComponentType();
                    return !(part instanceof ArrayType) && isListed(part);
                case DECLARED:
                    return isOwn(((DeclaredType) type).asElement());
                default:
                    return false;
            }
        }

        @Override
        public Void visitMethodInvocation(MethodInvocationTree tree, Void none) {
            Element called = element();
            String name = called.getEnclosingElement() + "." + called;
            CHECKS.sentence("The library: only what stands here");
            CHECKS.due("calls " + name, isOwn(called) || LIBRARY.contains(name)
                || called.getKind() == ElementKind.CONSTRUCTOR, true);
            if (method != null && isOwn(called)) {
                calls.get(method).add(called);
            }
            return super.visitMethodInvocation(tree, none);
        }

        @Override
        public Void visitNewClass(NewClassTree tree, Void none) {
            CHECKS.sentence("none in a loop without a bound .. keep it small");
            CHECKS.due(tree + " is made by a constructor alone", isMaking(), true);
            CHECKS.due(tree + " is of an own class", isListed(typeOf(tree)), true);
            return super.visitNewClass(tree, none);
        }

        @Override
        public Void visitNewArray(NewArrayTree tree, Void none) {
            CHECKS.sentence("none in a loop without a bound .. keep it small");
            CHECKS.due(tree + " is made by a constructor alone", isMaking(), true);
            return super.visitNewArray(tree, none);
        }

        /** A field's first value is made by the constructor too. */
        private boolean isMaking() {
            return method == null || method.getKind() == ElementKind.CONSTRUCTOR;
        }
    }
}
