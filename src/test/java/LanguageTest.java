import com.sun.source.tree.ArrayAccessTree;
import com.sun.source.tree.AssignmentTree;
import com.sun.source.tree.BinaryTree;
import com.sun.source.tree.BlockTree;
import com.sun.source.tree.ClassTree;
import com.sun.source.tree.CompilationUnitTree;
import com.sun.source.tree.CompoundAssignmentTree;
import com.sun.source.tree.ExpressionTree;
import com.sun.source.tree.ForLoopTree;
import com.sun.source.tree.MethodInvocationTree;
import com.sun.source.tree.MethodTree;
import com.sun.source.tree.NewArrayTree;
import com.sun.source.tree.NewClassTree;
import com.sun.source.tree.Tree;
import com.sun.source.tree.UnaryTree;
import com.sun.source.tree.VariableTree;
import com.sun.source.util.JavacTask;
import com.sun.source.util.TreePath;
import com.sun.source.util.TreePathScanner;
import com.sun.source.util.Trees;
import java.io.File;
import java.io.IOException;
import java.util.ArrayList;
import java.util.EnumSet;
import java.util.HashMap;
import java.util.LinkedHashSet;
import java.util.List;
import java.util.Map;
import java.util.Set;
import java.util.TreeSet;
import javax.lang.model.element.Element;
import javax.lang.model.element.ElementKind;
import javax.lang.model.element.Modifier;
import javax.lang.model.element.TypeElement;
import javax.lang.model.type.ArrayType;
import javax.lang.model.type.DeclaredType;
import javax.lang.model.type.TypeKind;
import javax.lang.model.type.TypeMirror;
import javax.tools.JavaCompiler;
import javax.tools.StandardJavaFileManager;
import javax.tools.ToolProvider;

/**
 * The rules of ../shared/LANGUAGE.md, as far as they can be seen in the source. Where the class keeps to less
 * than a rule allows (no exception, no loop but for, no object made outside a constructor) that less is tested.
 */
public final class LanguageTest {
    private static final String FILE = "src/main/java/PosterSheet.java";
    private static final String FACE = "PosterSheet";
    /** Rule 4: what the class uses of the library. */
    private static final Set<String> LIBRARY = Set.of(
        "System.arraycopy", "Arrays.fill", "Math.min", "Math.max", "Integer.bitCount");
    /** Rules 2, 6, 8, 9, 10. */
    private static final Set<Tree.Kind> FORBIDDEN = EnumSet.of(
        Tree.Kind.LAMBDA_EXPRESSION, Tree.Kind.MEMBER_REFERENCE, Tree.Kind.THROW, Tree.Kind.TRY, Tree.Kind.CATCH,
        Tree.Kind.SYNCHRONIZED, Tree.Kind.ASSERT, Tree.Kind.WHILE_LOOP, Tree.Kind.DO_WHILE_LOOP, Tree.Kind.INSTANCE_OF,
        Tree.Kind.SWITCH_EXPRESSION, Tree.Kind.ANNOTATION);
    private static final Set<TypeKind> NUMBERS = EnumSet.of(
        TypeKind.INT, TypeKind.LONG, TypeKind.BOOLEAN, TypeKind.FLOAT, TypeKind.DOUBLE);

    private static int asked;
    private static int wrong;

    public static void main(String[] args) throws IOException {
        JavaCompiler compiler = ToolProvider.getSystemJavaCompiler();
        try (StandardJavaFileManager files = compiler.getStandardFileManager(null, null, null)) {
            JavacTask task = (JavacTask) compiler.getTask(
                null, files, null, List.of("--release", "17", "-proc:none"), null, files.getJavaFileObjects(new File(FILE)));
            CompilationUnitTree unit = task.parse().iterator().next();
            task.analyze();
            Look look = new Look(Trees.instance(task), unit);
            look.scan(unit, null);
            look.atTheEnd();
        }
        System.out.println(asked + " places, " + wrong + " not as due");
        if (wrong != 0) {
            System.exit(1);
        }
    }

    private static final class Look extends TreePathScanner<Void, Void> {
        private final Trees trees;
        private final CompilationUnitTree unit;
        /** Of each method and constructor which ones it calls. */
        private final Map<Element, Set<Element>> calls = new HashMap<>();
        private final Set<String> publicNames = new TreeSet<>();
        private final List<String> otherNames = new ArrayList<>();
        private int classes;
        private int loops;
        private Element method;

        Look(Trees trees, CompilationUnitTree unit) {
            this.trees = trees;
            this.unit = unit;
        }

        private void due(int rule, String what, boolean is) {
            asked++;
            if (!is) {
                wrong++;
                Tree leaf = getCurrentPath() == null ? unit : getCurrentPath().getLeaf();
                System.out.println("rule " + rule + ", line " + lineOf(leaf, false) + ": " + what);
            }
        }

        private long lineOf(Tree tree, boolean end) {
            long from = trees.getSourcePositions().getStartPosition(unit, tree);
            long to = trees.getSourcePositions().getEndPosition(unit, tree);
            return unit.getLineMap().getLineNumber(end ? to : Math.max(0, from));
        }

        private Element elementOf(Tree tree) {
            return trees.getElement(new TreePath(getCurrentPath(), tree));
        }

        private boolean isOwn(Element element) {
            Element top = element;
            while (top != null && top.getEnclosingElement() != null && top.getEnclosingElement().getKind() != ElementKind.PACKAGE) {
                top = top.getEnclosingElement();
            }
            return top != null && top.toString().equals(FACE);
        }

        private boolean isAllowed(TypeMirror type) {
            if (type.getKind() == TypeKind.ARRAY) {
                TypeMirror of = ((ArrayType) type).getComponentType();
                return of.getKind() != TypeKind.ARRAY && isAllowed(of);
            }
            boolean isPlain = NUMBERS.contains(type.getKind()) || type.getKind() == TypeKind.VOID;
            return isPlain || type instanceof DeclaredType && isOwn(((DeclaredType) type).asElement());
        }

        @Override
        public Void scan(Tree tree, Void none) {
            if (tree != null && FORBIDDEN.contains(tree.getKind())) {
                due(2, "there is a " + tree.getKind() + " at line " + lineOf(tree, false), false);
            }
            return super.scan(tree, none);
        }

        @Override
        public Void visitCompilationUnit(CompilationUnitTree tree, Void none) {
            due(1, "a package line", tree.getPackage() == null);
            due(1, "one class in the file", tree.getTypeDecls().size() == 1);
            for (Tree of : tree.getImports()) {
                due(4, "an import: " + of, of.toString().trim().equals("import java.util.Arrays;"));
            }
            return super.visitCompilationUnit(tree, none);
        }

        @Override
        public Void visitClass(ClassTree tree, Void none) {
            Element element = trees.getElement(getCurrentPath());
            boolean isFace = element.toString().equals(FACE);
            Set<Modifier> modifiers = element.getModifiers();
            classes++;
            due(2, "an inner class that is not a member", element.getEnclosingElement().getKind() != ElementKind.METHOD);
            due(2, "a class inside it that is not static", isFace || modifiers.contains(Modifier.STATIC));
            due(2, "a public class inside it", isFace == modifiers.contains(Modifier.PUBLIC));
            due(2, "a protected class inside it", !modifiers.contains(Modifier.PROTECTED));
            int fields = 0;
            for (Element member : element.getEnclosedElements()) {
                boolean isConstant = member.getModifiers().contains(Modifier.STATIC);
                fields += member.getKind() == ElementKind.FIELD && !isConstant ? 1 : 0;
                due(5, "a static initialiser", member.getKind() != ElementKind.STATIC_INIT);
                due(12, "an initialiser", member.getKind() != ElementKind.INSTANCE_INIT);
                boolean isSeen = !member.getModifiers().contains(Modifier.PRIVATE) && !(member instanceof TypeElement);
                due(1, "not private, not public: " + member, !isFace || !isSeen || member.getModifiers().contains(Modifier.PUBLIC));
            }
            due(11, fields + " fields in " + element, fields <= 20);
            return super.visitClass(tree, none);
        }

        @Override
        public Void visitBlock(BlockTree tree, Void none) {
            due(5, "a static block", !tree.isStatic());
            return super.visitBlock(tree, none);
        }

        @Override
        public Void visitMethod(MethodTree tree, Void none) {
            Element before = method;
            method = trees.getElement(getCurrentPath());
            calls.putIfAbsent(method, new LinkedHashSet<>());
            long lines = lineOf(tree, true) - lineOf(tree, false) + 1;
            String name = tree.getName().toString();
            due(11, name + " takes " + tree.getParameters().size(), tree.getParameters().size() <= 7);
            due(11, name + " has " + lines + " lines", lines <= 60);
            due(6, name + " tells exceptions", tree.getThrows().isEmpty());
            due(3, name + " answers " + tree.getReturnType(),
                tree.getReturnType() == null || isAllowed(trees.getTypeMirror(new TreePath(getCurrentPath(), tree.getReturnType()))));
            if (method.getKind() == ElementKind.METHOD) {
                if (method.getModifiers().contains(Modifier.PUBLIC)) {
                    publicNames.add(name);
                } else {
                    otherNames.add(name);
                }
            }
            super.visitMethod(tree, none);
            method = before;
            return null;
        }

        @Override
        public Void visitVariable(VariableTree tree, Void none) {
            Element element = trees.getElement(getCurrentPath());
            due(3, "a type: " + tree, isAllowed(element.asType()));
            if (element.getKind() == ElementKind.FIELD && element.getModifiers().contains(Modifier.STATIC)) {
                due(5, "not final: " + tree, element.getModifiers().contains(Modifier.FINAL));
                boolean isArray = element.asType().getKind() == TypeKind.ARRAY;
                boolean isWritten = tree.getInitializer() != null;
                due(5, "not written out: " + tree, isWritten && (!isArray || tree.getInitializer() instanceof NewArrayTree));
                due(5, "not of a constant's type: " + tree, isArray || Set.of("int", "long", "boolean", "char").contains(element.asType().toString()));
            }
            return super.visitVariable(tree, none);
        }

        private void changes(ExpressionTree to) {
            Tree changed = to instanceof ArrayAccessTree ? ((ArrayAccessTree) to).getExpression() : to;
            Element element = elementOf(changed);
            due(5, "a constant is changed: " + to, element == null || !element.getModifiers().contains(Modifier.STATIC));
        }

        @Override
        public Void visitAssignment(AssignmentTree tree, Void none) {
            changes(tree.getVariable());
            return super.visitAssignment(tree, none);
        }

        @Override
        public Void visitCompoundAssignment(CompoundAssignmentTree tree, Void none) {
            changes(tree.getVariable());
            return super.visitCompoundAssignment(tree, none);
        }

        @Override
        public Void visitUnary(UnaryTree tree, Void none) {
            if (tree.getKind().name().endsWith("CREMENT")) {
                changes(tree.getExpression());
            }
            return super.visitUnary(tree, none);
        }

        @Override
        public Void visitBinary(BinaryTree tree, Void none) {
            TypeMirror type = trees.getTypeMirror(getCurrentPath());
            due(10, "texts joined by +: " + tree, NUMBERS.contains(type.getKind()));
            due(3, "a remainder of doubles: " + tree, tree.getKind() != Tree.Kind.REMAINDER || type.getKind() == TypeKind.INT);
            return super.visitBinary(tree, none);
        }

        @Override
        public Void visitForLoop(ForLoopTree tree, Void none) {
            due(9, "a loop without a bound", tree.getCondition() != null && tree.getUpdate().size() == 1);
            loops++;
            super.visitForLoop(tree, none);
            loops--;
            return null;
        }

        @Override
        public Void visitMethodInvocation(MethodInvocationTree tree, Void none) {
            Element called = trees.getElement(new TreePath(getCurrentPath(), tree.getMethodSelect()));
            String name = called.getEnclosingElement().getSimpleName() + "." + called.getSimpleName();
            if (isOwn(called)) {
                calls.get(method).add(called);
            } else if (!name.equals("Object.<init>")) {
                due(4, "not of the library: " + name, LIBRARY.contains(name));
                due(4, "not over int: " + tree, called.getEnclosingElement().getSimpleName().contentEquals("Arrays")
                    || called.getEnclosingElement().getSimpleName().contentEquals("System")
                    || trees.getTypeMirror(getCurrentPath()).getKind() == TypeKind.INT);
            }
            return super.visitMethodInvocation(tree, none);
        }

        @Override
        public Void visitNewClass(NewClassTree tree, Void none) {
            Element made = trees.getElement(getCurrentPath());
            due(4, "not of its own: " + tree, isOwn(made) && tree.getClassBody() == null);
            due(12, "made outside a constructor: " + tree, method != null && method.getKind() == ElementKind.CONSTRUCTOR);
            if (method != null) {
                calls.get(method).add(made);
            }
            return super.visitNewClass(tree, none);
        }

        @Override
        public Void visitNewArray(NewArrayTree tree, Void none) {
            boolean isConstant = method == null && tree.getInitializers() != null;
            due(12, "made outside a constructor: " + tree,
                isConstant || method != null && method.getKind() == ElementKind.CONSTRUCTOR && loops == 0);
            return super.visitNewArray(tree, none);
        }

        void atTheEnd() {
            due(11, classes + " classes", classes <= 12);
            for (String name : otherNames) {
                due(1, name + " bears the name of a public one", !publicNames.contains(name));
            }
            for (Element from : calls.keySet()) {
                int deep = depth(from, new ArrayList<>());
                due(11, from + " goes " + deep + " deep", deep <= 8);
            }
        }

        private int depth(Element from, List<Element> open) {
            due(8, from + " calls itself", !open.contains(from));
            if (open.contains(from)) {
                return 0;
            }
            open.add(from);
            int deepest = 0;
            for (Element called : calls.getOrDefault(from, Set.of())) {
                deepest = Math.max(deepest, depth(called, open));
            }
            open.remove(from);
            return 1 + deepest;
        }
    }
}
