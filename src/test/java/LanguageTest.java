import com.sun.source.tree.AssertTree;
import com.sun.source.tree.BinaryTree;
import com.sun.source.tree.ClassTree;
import com.sun.source.tree.CompilationUnitTree;
import com.sun.source.tree.CompoundAssignmentTree;
import com.sun.source.tree.DoWhileLoopTree;
import com.sun.source.tree.ExpressionTree;
import com.sun.source.tree.ForLoopTree;
import com.sun.source.tree.ImportTree;
import com.sun.source.tree.LambdaExpressionTree;
import com.sun.source.tree.MemberReferenceTree;
import com.sun.source.tree.MethodInvocationTree;
import com.sun.source.tree.MethodTree;
import com.sun.source.tree.NewClassTree;
import com.sun.source.tree.SynchronizedTree;
import com.sun.source.tree.ThrowTree;
import com.sun.source.tree.Tree;
import com.sun.source.tree.TryTree;
import com.sun.source.tree.VariableTree;
import com.sun.source.tree.WhileLoopTree;
import com.sun.source.util.JavacTask;
import com.sun.source.util.SourcePositions;
import com.sun.source.util.TreePathScanner;
import com.sun.source.util.Trees;
import java.io.IOException;
import java.nio.file.Files;
import java.nio.file.Path;
import java.util.HashMap;
import java.util.HashSet;
import java.util.LinkedHashMap;
import java.util.LinkedHashSet;
import java.util.List;
import java.util.Map;
import java.util.Set;
import javax.lang.model.element.Element;
import javax.lang.model.element.ElementKind;
import javax.lang.model.element.Modifier;
import javax.lang.model.element.TypeElement;
import javax.lang.model.type.ArrayType;
import javax.lang.model.type.DeclaredType;
import javax.lang.model.type.TypeKind;
import javax.lang.model.type.TypeMirror;
import javax.tools.JavaCompiler;
import javax.tools.StandardJavaFileManager;
import javax.tools.ToolProvider;

/** What of LANGUAGE.md can be seen in the compiler's tree of the source; it is run from the project's root. */
public final class LanguageTest {
    private static final Path SOURCE = Path.of("src/main/java/TalliedWindows.java");
    private static final int MOST_PARAMETERS = 7, MOST_LINES = 60, MOST_CLASSES = 12, MOST_FIELDS = 20, MOST_DEPTH = 8;
    private static final Set<String> IMPORTS = Set.of("java.util.Arrays", "java.util.ArrayList", "java.util.List", "java.util.Iterator");
    private static final Set<String> TYPES = Set.of("java.lang.String", "java.lang.StringBuilder", "java.lang.Integer",
        "java.util.ArrayList", "java.util.List");
    private static final Map<String, Set<String>> CALLS = Map.of(
        "java.lang.String", Set.of("length", "charAt", "isEmpty", "equals", "indexOf", "substring", "toCharArray", "<init>"),
        "java.lang.StringBuilder", Set.of("<init>", "append", "charAt", "setCharAt", "setLength", "deleteCharAt", "reverse",
            "length", "toString"),
        "java.util.ArrayList", Set.of("<init>", "add", "get", "set", "remove", "size", "isEmpty", "clear"),
        "java.util.List", Set.of("add", "get", "set", "remove", "size", "isEmpty", "clear", "of"),
        "java.util.Arrays", Set.of("copyOf", "copyOfRange", "fill"),
        "java.lang.System", Set.of("arraycopy"),
        "java.lang.Object", Set.of("<init>"));

    private static final Due due = new Due();

    public static void main(String[] args) throws IOException {
        String source = Files.readString(SOURCE);
        due.holds("the source has signs 1 to 127 alone", source.chars().allMatch(c -> c >= 1 && c <= 127));
        JavaCompiler compiler = ToolProvider.getSystemJavaCompiler();
        try (StandardJavaFileManager files = compiler.getStandardFileManager(null, null, null)) {
            JavacTask task = (JavacTask) compiler.getTask(null, files, null, List.of("-proc:none", "--release", "17"), null,
                files.getJavaFileObjects(SOURCE));
            CompilationUnitTree unit = task.parse().iterator().next();
            task.analyze();
            Rules rules = new Rules(Trees.instance(task), unit);
            rules.scan(unit, null);
            rules.end();
        }
        due.end();
    }

    private static final class Rules extends TreePathScanner<Void, Void> {
        private final Trees trees;
        private final CompilationUnitTree unit;
        private final Map<Element, Set<Element>> called = new LinkedHashMap<>();
        private final Set<Element> own = new HashSet<>();
        private final Map<Element, Integer> depths = new HashMap<>();
        private Element method = null;
        private int classes = 0;
        private int loops = 0;

        Rules(Trees trees, CompilationUnitTree unit) {
            this.trees = trees;
            this.unit = unit;
        }

        private void breaks(String rule, Tree tree) {
            due.holds(rule + ", line " + line(trees.getSourcePositions().getStartPosition(unit, tree)) + ": " + tree, false);
        }

        private long line(long position) {
            return unit.getLineMap().getLineNumber(position);
        }

        private Element element() {
            return trees.getElement(getCurrentPath());
        }

        private boolean isOwn(TypeElement type) {
            return type.getQualifiedName().toString().split("\\.")[0].equals("TalliedWindows");
        }

        @Override
        public Void visitCompilationUnit(CompilationUnitTree tree, Void none) {
            due.holds("no package", tree.getPackageName() == null);
            due.is("classes beside one another in the file", tree.getTypeDecls().size(), 1);
            return super.visitCompilationUnit(tree, none);
        }

        @Override
        public Void visitImport(ImportTree tree, Void none) {
            String name = tree.getQualifiedIdentifier().toString();
            due.holds("rule 4, import of " + name, !tree.isStatic() && IMPORTS.contains(name));
            return super.visitImport(tree, none);
        }

        @Override
        public Void visitClass(ClassTree tree, Void none) {
            classes++;
            Element type = element();
            Set<Modifier> modifiers = type.getModifiers();
            boolean isOuter = type.getEnclosingElement().getKind() == ElementKind.PACKAGE;
            due.holds("rule 2, " + type + " is static", isOuter || modifiers.contains(Modifier.STATIC));
            due.holds("rule 2, " + type + " is a member", isOuter || type.getEnclosingElement().getKind().isClass());
            due.holds("rule 12, no method of " + type + " can be overridden", modifiers.contains(Modifier.FINAL));
            int fields = 0;
            for (Tree member : tree.getMembers()) {
                due.holds("rule 5, no initialiser block in " + type, member.getKind() != Tree.Kind.BLOCK);
                boolean isField = member instanceof VariableTree v && !v.getModifiers().getFlags().contains(Modifier.STATIC);
                fields += isField ? 1 : 0;
            }
            due.holds("rule 11, " + type + " has " + fields + " fields", fields <= MOST_FIELDS);
            return super.visitClass(tree, none);
        }

        @Override
        public Void visitVariable(VariableTree tree, Void none) {
            Element variable = element();
            due.holds("rule 3, type of " + tree, isAllowed(variable.asType()));
            if (variable.getKind() == ElementKind.FIELD && variable.getModifiers().contains(Modifier.STATIC)) {
                due.holds("rule 5, " + tree + " is final", variable.getModifiers().contains(Modifier.FINAL));
                due.holds("rule 5, type of " + tree, isConstant(variable.asType()));
            }
            return super.visitVariable(tree, none);
        }

        private boolean isAllowed(TypeMirror type) {
            if (type instanceof ArrayType array) {
                TypeMirror of = array.getComponentType();
                boolean isSquare = of instanceof ArrayType inner && inner.getComponentType().getKind().isPrimitive();
                return isSquare || of.getKind().isPrimitive() || isOwnType(of);
            }
            return type.getKind().isPrimitive() || isOwnType(type)
                || type instanceof DeclaredType d && TYPES.contains(((TypeElement) d.asElement()).getQualifiedName().toString());
        }

        private boolean isOwnType(TypeMirror type) {
            return type instanceof DeclaredType d && isOwn((TypeElement) d.asElement());
        }

        private boolean isConstant(TypeMirror type) {
            TypeMirror single = type instanceof ArrayType array ? array.getComponentType() : type;
            return Set.of(TypeKind.INT, TypeKind.LONG, TypeKind.BOOLEAN, TypeKind.CHAR, TypeKind.BYTE).contains(single.getKind())
                || type.toString().equals("java.lang.String");
        }

        @Override
        public Void visitMethod(MethodTree tree, Void none) {
            Element outer = method;
            method = element();
            own.add(method);
            called.computeIfAbsent(method, m -> new LinkedHashSet<>());
            due.holds("rule 11, parameters of " + method, tree.getParameters().size() <= MOST_PARAMETERS);
            due.holds("rule 6, exceptions of " + method, tree.getThrows().isEmpty());
            SourcePositions places = trees.getSourcePositions();
            if (places.getEndPosition(unit, tree) >= 0) {
                long lines = line(places.getEndPosition(unit, tree)) - line(places.getStartPosition(unit, tree)) + 1;
                due.holds("rule 11, " + method + " has " + lines + " lines", lines <= MOST_LINES);
            }
            if (tree.getReturnType() != null && !tree.getReturnType().toString().equals("void")) {
                due.holds("rule 3, type of " + method, isAllowed(((javax.lang.model.element.ExecutableElement) method).getReturnType()));
            }
            super.visitMethod(tree, none);
            method = outer;
            return null;
        }

        @Override
        public Void visitMethodInvocation(MethodInvocationTree tree, Void none) {
            callsOf(element(), tree);
            return super.visitMethodInvocation(tree, none);
        }

        @Override
        public Void visitNewClass(NewClassTree tree, Void none) {
            due.holds("rule 2, anonymous class " + tree, tree.getClassBody() == null);
            callsOf(element(), tree);
            return super.visitNewClass(tree, none);
        }

        private void callsOf(Element target, Tree tree) {
            TypeElement type = (TypeElement) target.getEnclosingElement();
            String name = target.getSimpleName().toString();
            boolean isListed = isStaticFunction(type, target) ? !name.endsWith("Exact")
                : CALLS.getOrDefault(type.getQualifiedName().toString(), Set.of()).contains(name);
            due.holds("rule 4, call of " + type + "." + target + " in " + tree, isOwn(type) || isListed);
            if (method != null) {
                called.get(method).add(target);
            }
        }

        private boolean isStaticFunction(TypeElement type, Element target) {
            return Set.of("java.lang.Math", "java.lang.Integer", "java.lang.Long").contains(type.getQualifiedName().toString())
                && target.getModifiers().contains(Modifier.STATIC);
        }

        @Override
        public Void visitBinary(BinaryTree tree, Void none) {
            if (tree.getKind() == Tree.Kind.PLUS && trees.getTypeMirror(getCurrentPath()).toString().equals("java.lang.String")) {
                breaks("rule 10, texts joined by +", tree);
            }
            return super.visitBinary(tree, none);
        }

        @Override
        public Void visitCompoundAssignment(CompoundAssignmentTree tree, Void none) {
            if (trees.getTypeMirror(getCurrentPath()).toString().equals("java.lang.String")) {
                breaks("rule 10, texts joined by +=", tree);
            }
            return super.visitCompoundAssignment(tree, none);
        }

        @Override
        public Void visitForLoop(ForLoopTree tree, Void none) {
            endsByCondition(tree.getCondition(), tree);
            return super.visitForLoop(tree, none);
        }

        @Override
        public Void visitWhileLoop(WhileLoopTree tree, Void none) {
            endsByCondition(tree.getCondition(), tree);
            return super.visitWhileLoop(tree, none);
        }

        @Override
        public Void visitDoWhileLoop(DoWhileLoopTree tree, Void none) {
            endsByCondition(tree.getCondition(), tree);
            return super.visitDoWhileLoop(tree, none);
        }

        /** The counter's bound is a comparison, alone or ahead of what else ends the loop. */
        private void endsByCondition(ExpressionTree condition, Tree loop) {
            loops++;
            if (condition == null || !condition.toString().matches("\\(?\\w+ (<|<=|>|>=) .*")) {
                breaks("rule 9, a counter against a bound", loop);
            }
        }

        @Override
        public Void visitLambdaExpression(LambdaExpressionTree tree, Void none) {
            breaks("rule 2, lambda", tree);
            return null;
        }

        @Override
        public Void visitMemberReference(MemberReferenceTree tree, Void none) {
            breaks("rule 2, method reference", tree);
            return null;
        }

        @Override
        public Void visitThrow(ThrowTree tree, Void none) {
            breaks("rule 6", tree);
            return null;
        }

        @Override
        public Void visitTry(TryTree tree, Void none) {
            breaks("rule 6", tree);
            return null;
        }

        @Override
        public Void visitSynchronized(SynchronizedTree tree, Void none) {
            breaks("rule 6", tree);
            return null;
        }

        @Override
        public Void visitAssert(AssertTree tree, Void none) {
            breaks("rule 6", tree);
            return null;
        }

        void end() {
            due.holds("rule 11, " + classes + " classes", classes > 1 && classes <= MOST_CLASSES);
            due.holds("the methods were found", own.size() > 26);
            due.holds("the loops were found", loops > 10);
            for (Element from : called.keySet()) {
                int depth = depthOf(from, new HashSet<>());
                due.holds("rule 11, calls from " + from + " go " + depth + " deep", depth <= MOST_DEPTH);
            }
        }

        /** How many calls stand open at once, the library's counted as one. */
        private int depthOf(Element from, Set<Element> open) {
            if (!open.add(from)) {
                due.holds("rule 8, " + from + " comes to itself again", false);
                return 0;
            }
            Integer known = depths.get(from);
            int deepest = 0;
            if (known == null) {
                for (Element to : called.getOrDefault(from, Set.of())) {
                    deepest = Math.max(deepest, depthOf(to, open));
                }
                depths.put(from, deepest + 1);
            }
            open.remove(from);
            return depths.get(from);
        }
    }
}
