import com.sun.source.tree.AssignmentTree;
import com.sun.source.tree.BinaryTree;
import com.sun.source.tree.ClassTree;
import com.sun.source.tree.CompilationUnitTree;
import com.sun.source.tree.DoWhileLoopTree;
import com.sun.source.tree.ForLoopTree;
import com.sun.source.tree.IdentifierTree;
import com.sun.source.tree.ImportTree;
import com.sun.source.tree.LiteralTree;
import com.sun.source.tree.MemberSelectTree;
import com.sun.source.tree.MethodInvocationTree;
import com.sun.source.tree.MethodTree;
import com.sun.source.tree.NewArrayTree;
import com.sun.source.tree.NewClassTree;
import com.sun.source.tree.Tree;
import com.sun.source.tree.TypeCastTree;
import com.sun.source.tree.VariableTree;
import com.sun.source.tree.WhileLoopTree;
import com.sun.source.util.JavacTask;
import com.sun.source.util.TreePath;
import com.sun.source.util.TreePathScanner;
import com.sun.source.util.TreeScanner;
import com.sun.source.util.Trees;
import java.io.IOException;
import java.nio.file.Path;
import java.util.ArrayList;
import java.util.EnumSet;
import java.util.LinkedHashMap;
import java.util.LinkedHashSet;
import java.util.List;
import java.util.Map;
import java.util.Set;
import javax.lang.model.element.Element;
import javax.lang.model.element.ElementKind;
import javax.lang.model.element.ExecutableElement;
import javax.lang.model.element.Modifier;
import javax.lang.model.element.TypeElement;
import javax.lang.model.element.VariableElement;
import javax.lang.model.type.ArrayType;
import javax.lang.model.type.TypeKind;
import javax.lang.model.type.TypeMirror;
import javax.tools.JavaCompiler;
import javax.tools.StandardJavaFileManager;
import javax.tools.ToolProvider;

/** The rules of LANGUAGE.md that can be read off a program, looked for in the tree that javac itself makes of it. */
public final class SourceRulesTest {
    private static final String MAIN = "src/main/java/SpoonCensus.java";
    private static int wrong = 0;

    private SourceRulesTest() {
    }

    public static void main(String[] args) throws IOException {
        Set<String> broken = rulesBrokenBy(Path.of(MAIN));
        for (String rule : broken) {
            complain(rule);
        }
        SourceRulesSamples.check();
        System.out.println(wrong == 0 ? "the rules are kept" : wrong + " rules are broken");
        if (wrong != 0) {
            System.exit(1);
        }
    }

    static void complain(String what) {
        wrong++;
        System.out.println(what);
    }

    static Set<String> rulesBrokenBy(Path file) throws IOException {
        JavaCompiler javac = ToolProvider.getSystemJavaCompiler();
        try (StandardJavaFileManager files = javac.getStandardFileManager(null, null, null)) {
            JavacTask task = (JavacTask) javac.getTask(null, files, null, List.of("-proc:none"), null,
                    files.getJavaFileObjects(file));
            CompilationUnitTree unit = task.parse().iterator().next();
            task.analyze();
            Reader reader = new Reader(task, unit);
            reader.scan(unit, null);
            reader.lookAtCalls();
            return reader.broken;
        }
    }

    /** Reads a file once; what breaks a rule is told with the rule's number and the line. */
    private static final class Reader extends TreePathScanner<Void, Void> {
        private static final int DEEPEST = 8, CLASSES = 12, FIELDS = 20, PARAMETERS = 7, LINES = 60;
        private static final Set<Tree.Kind> NEVER = EnumSet.of(Tree.Kind.THROW, Tree.Kind.TRY, Tree.Kind.CATCH,
            Tree.Kind.SYNCHRONIZED, Tree.Kind.ASSERT, Tree.Kind.LAMBDA_EXPRESSION, Tree.Kind.MEMBER_REFERENCE,
            Tree.Kind.ANNOTATION, Tree.Kind.DOUBLE_LITERAL, Tree.Kind.FLOAT_LITERAL, Tree.Kind.SWITCH_EXPRESSION,
            Tree.Kind.INTERSECTION_TYPE, Tree.Kind.PACKAGE);
        final Set<String> broken = new LinkedHashSet<>();
        private final JavacTask task;
        private final CompilationUnitTree unit;
        private final Trees trees;
        private final Map<ExecutableElement, Set<ExecutableElement>> calls = new LinkedHashMap<>();
        private final Set<String> namesOfFace = new LinkedHashSet<>();
        private int classes = 0;

        Reader(JavacTask task, CompilationUnitTree unit) {
            this.task = task;
            this.unit = unit;
            this.trees = Trees.instance(task);
        }

        private void breaks(int rule, Tree at, String what) {
            long line = unit.getLineMap().getLineNumber(trees.getSourcePositions().getStartPosition(unit, at));
            broken.add("rule " + rule + ", line " + line + ": " + what);
        }

        private Element elementOf(Tree tree) {
            return trees.getElement(TreePath.getPath(unit, tree));
        }

        private TypeMirror typeOf(Tree tree) {
            return trees.getTypeMirror(TreePath.getPath(unit, tree));
        }

        private boolean isOwn(Element element) {
            Element outermost = element;
            while (outermost.getEnclosingElement() != null && outermost.getEnclosingElement().getKind() != ElementKind.PACKAGE) {
                outermost = outermost.getEnclosingElement();
            }
            return outermost.equals(elementOf(unit.getTypeDecls().get(0)));
        }

        private MethodTree methodAround() {
            for (TreePath path = getCurrentPath(); path != null; path = path.getParentPath()) {
                if (path.getLeaf() instanceof MethodTree method) {
                    return method;
                }
            }
            return null;
        }

        @Override
        public Void scan(Tree tree, Void nothing) {
            if (tree != null && NEVER.contains(tree.getKind())) {
                breaks(6, tree, "a " + tree.getKind());
            }
            return super.scan(tree, nothing);
        }

        // ---- the library

        @Override
        public Void visitImport(ImportTree tree, Void nothing) {
            if (!tree.getQualifiedIdentifier().toString().equals("java.util.Arrays")) {
                breaks(4, tree, "an import of " + tree.getQualifiedIdentifier());
            }
            return super.visitImport(tree, nothing);
        }

        @Override
        public Void visitMethodInvocation(MethodInvocationTree tree, Void nothing) {
            Element called = elementOf(tree.getMethodSelect());
            MethodTree from = methodAround();
            if (called instanceof ExecutableElement method) {
                if (from != null) {
                    calls.computeIfAbsent((ExecutableElement) elementOf(from), k -> new LinkedHashSet<>()).add(method);
                }
                if (!isOwn(method) && !isOfLibrary(method)) {
                    breaks(4, tree, "a call of " + method.getEnclosingElement() + "." + method);
                }
            }
            return super.visitMethodInvocation(tree, nothing);
        }

        private static boolean isOfLibrary(ExecutableElement method) {
            String owner = method.getEnclosingElement().toString();
            String name = method.getSimpleName().toString();
            switch (owner) {
                case "java.lang.System":
                    return name.equals("arraycopy");
                case "java.util.Arrays":
                    return Set.of("copyOf", "copyOfRange", "fill").contains(name);
                case "java.lang.Math", "java.lang.Integer", "java.lang.Long":
                    return method.getModifiers().contains(Modifier.STATIC) && !name.endsWith("Exact")
                        && method.getParameters().stream().allMatch(p -> isIntOrLong(p.asType()));
                default: // what every constructor calls first
                    return owner.equals("java.lang.Object") && name.equals("<init>");
            }
        }

        private static boolean isIntOrLong(TypeMirror type) {
            return type.getKind() == TypeKind.INT || type.getKind() == TypeKind.LONG;
        }

        @Override
        public Void visitMemberSelect(MemberSelectTree tree, Void nothing) {
            lookAtField(tree);
            return super.visitMemberSelect(tree, nothing);
        }

        @Override
        public Void visitIdentifier(IdentifierTree tree, Void nothing) {
            lookAtField(tree);
            return super.visitIdentifier(tree, nothing);
        }

        private void lookAtField(Tree tree) {
            Element element = elementOf(tree);
            boolean isLibraryField = element != null && element.getKind() == ElementKind.FIELD
                && !element.getSimpleName().contentEquals("length") && !isOwn(element);
            if (isLibraryField) {
                breaks(4, tree, "the library's " + tree);
            }
        }

        // ---- what is declared

        @Override
        public Void visitClass(ClassTree tree, Void nothing) {
            classes++;
            TypeElement type = (TypeElement) elementOf(tree);
            boolean isOutermost = unit.getTypeDecls().contains(tree);
            Set<Modifier> modifiers = type == null ? Set.of() : type.getModifiers();
            if (!isOutermost && (!modifiers.contains(Modifier.STATIC) || modifiers.contains(Modifier.PUBLIC)
                    || modifiers.contains(Modifier.PROTECTED))) {
                breaks(2, tree, "an inner, local, anonymous or public class");
            }
            int fields = 0;
            for (Tree member : tree.getMembers()) {
                if (member.getKind() == Tree.Kind.BLOCK) {
                    breaks(5, member, "a block of its own");
                }
                if (member instanceof VariableTree field && !elementOf(field).getModifiers().contains(Modifier.STATIC)) {
                    fields++;
                }
            }
            if (fields > FIELDS) {
                breaks(11, tree, fields + " fields");
            }
            if (classes == CLASSES + 1) {
                breaks(11, tree, "more than " + CLASSES + " classes");
            }
            return super.visitClass(tree, nothing);
        }

        @Override
        public Void visitVariable(VariableTree tree, Void nothing) {
            VariableElement variable = (VariableElement) elementOf(tree);
            if (variable == null) {
                return super.visitVariable(tree, nothing);
            }
            if (!isLetIn(variable.asType())) {
                breaks(3, tree, "a variable of type " + variable.asType());
            }
            if (variable.getModifiers().contains(Modifier.STATIC)) {
                boolean isArray = variable.asType().getKind() == TypeKind.ARRAY
                    && tree.getInitializer() instanceof NewArrayTree array && array.getInitializers() != null;
                if (!variable.getModifiers().contains(Modifier.FINAL) || variable.getConstantValue() == null && !isArray) {
                    breaks(5, tree, tree.getName() + " is static, but no constant");
                }
            }
            return super.visitVariable(tree, nothing);
        }

        private boolean isLetIn(TypeMirror type) {
            if (type instanceof ArrayType array) {
                TypeMirror part = array.getComponentType();
                boolean isOfTwo = part instanceof ArrayType inner && inner.getComponentType().getKind().isPrimitive();
                return isOfTwo || part.getKind() != TypeKind.ARRAY && isLetIn(part);
            }
            if (type.getKind().isPrimitive()) {
                return type.getKind() != TypeKind.DOUBLE && type.getKind() != TypeKind.FLOAT;
            }
            Element declared = task.getTypes().asElement(type);
            return declared != null && isOwn(declared);
        }

        @Override
        public Void visitMethod(MethodTree tree, Void nothing) {
            Element method = elementOf(tree);
            boolean isOfFace = unit.getTypeDecls().contains(getCurrentPath().getParentPath().getLeaf());
            if (tree.getReturnType() != null && isOfFace && method.getModifiers().contains(Modifier.PUBLIC)) {
                namesOfFace.add(tree.getName().toString());
            } else if (tree.getReturnType() != null && isOfFace && !method.getModifiers().contains(Modifier.PRIVATE)) {
                breaks(1, tree, tree.getName() + " is no part of the face");
            }
            if (tree.getParameters().size() > PARAMETERS) {
                breaks(11, tree, tree.getName() + " takes " + tree.getParameters().size());
            }
            long lines = lineOf(trees.getSourcePositions().getEndPosition(unit, tree))
                - lineOf(trees.getSourcePositions().getStartPosition(unit, tree)) + 1;
            if (tree.getBody() != null && lines > LINES) {
                breaks(11, tree, tree.getName() + " has " + lines + " lines");
            }
            calls.computeIfAbsent((ExecutableElement) method, k -> new LinkedHashSet<>());
            return super.visitMethod(tree, nothing);
        }

        private long lineOf(long position) {
            return position < 0 ? 0 : unit.getLineMap().getLineNumber(position);
        }

        // ---- statements and expressions

        @Override
        public Void visitForLoop(ForLoopTree tree, Void nothing) {
            lookAtEnd(tree, tree.getCondition());
            return super.visitForLoop(tree, nothing);
        }

        @Override
        public Void visitWhileLoop(WhileLoopTree tree, Void nothing) {
            lookAtEnd(tree, tree.getCondition());
            return super.visitWhileLoop(tree, nothing);
        }

        @Override
        public Void visitDoWhileLoop(DoWhileLoopTree tree, Void nothing) {
            lookAtEnd(tree, tree.getCondition());
            return super.visitDoWhileLoop(tree, nothing);
        }

        /** A loop's end is seen from its lines: so its condition compares, in at least one of its parts. */
        private void lookAtEnd(Tree loop, Tree condition) {
            boolean[] compares = {false};
            new TreeScanner<Void, Void>() {
                @Override
                public Void visitBinary(BinaryTree tree, Void nothing) {
                    compares[0] |= Set.of(Tree.Kind.LESS_THAN, Tree.Kind.LESS_THAN_EQUAL, Tree.Kind.GREATER_THAN,
                        Tree.Kind.GREATER_THAN_EQUAL).contains(tree.getKind());
                    return super.visitBinary(tree, nothing);
                }
            }.scan(condition, null);
            if (!compares[0]) {
                breaks(9, loop, "a loop without a bound");
            }
        }

        @Override
        public Void visitBinary(BinaryTree tree, Void nothing) {
            boolean isOfTexts = isText(typeOf(tree.getLeftOperand())) || isText(typeOf(tree.getRightOperand()));
            if (isOfTexts) {
                breaks(tree.getKind() == Tree.Kind.PLUS ? 10 : 6, tree, "an operator over texts");
            }
            return super.visitBinary(tree, nothing);
        }

        private static boolean isText(TypeMirror type) {
            return type != null && (type.toString().equals("java.lang.String") || type.toString().equals("java.lang.Integer"));
        }

        @Override
        public Void visitLiteral(LiteralTree tree, Void nothing) {
            if (tree.getValue() instanceof String text && text.chars().anyMatch(c -> c < 1 || c > 127)) {
                breaks(4, tree, "a sign that is not 1 to 127");
            }
            return super.visitLiteral(tree, nothing);
        }

        @Override
        public Void visitTypeCast(TypeCastTree tree, Void nothing) {
            if (!typeOf(tree.getType()).getKind().isPrimitive()) {
                breaks(7, tree, "a cast that may fail");
            }
            return super.visitTypeCast(tree, nothing);
        }

        @Override
        public Void visitAssignment(AssignmentTree tree, Void nothing) {
            boolean isStatic = tree.getVariable() instanceof com.sun.source.tree.ArrayAccessTree place
                && elementOf(place.getExpression()) != null
                && elementOf(place.getExpression()).getModifiers().contains(Modifier.STATIC);
            if (isStatic) {
                breaks(5, tree, "a constant array is changed");
            }
            return super.visitAssignment(tree, nothing);
        }

        @Override
        public Void visitNewClass(NewClassTree tree, Void nothing) {
            lookAtMaking(tree);
            return super.visitNewClass(tree, nothing);
        }

        @Override
        public Void visitNewArray(NewArrayTree tree, Void nothing) {
            lookAtMaking(tree);
            return super.visitNewArray(tree, nothing);
        }

        /** The room of a run is small: so this program makes all that it needs in its constructors. */
        private void lookAtMaking(Tree tree) {
            MethodTree method = methodAround();
            if (method != null && !method.getName().contentEquals("<init>")) {
                breaks(12, tree, method.getName() + " makes an object at each call");
            }
        }

        // ---- all calls together

        void lookAtCalls() {
            for (ExecutableElement method : calls.keySet()) {
                boolean isOfFace = method.getEnclosingElement().equals(elementOf(unit.getTypeDecls().get(0)))
                    && method.getModifiers().contains(Modifier.PUBLIC);
                boolean bearsItsName = !isOfFace && namesOfFace.contains(method.getSimpleName().toString())
                    && method.getModifiers().contains(Modifier.PRIVATE);
                if (bearsItsName) {
                    broken.add("rule 1: " + method + " bears the name of a public one");
                }
                int depth = depthOf(method, new ArrayList<>());
                if (depth > DEEPEST) {
                    broken.add(depth > 1000 ? "rule 8: " + method + " comes to itself"
                        : "rule 11: calls of " + method + " go " + depth + " deep");
                }
            }
        }

        /** How many calls stand open at once, the library's own one and this one counted; 1,001 and more: without an end. */
        private int depthOf(ExecutableElement method, List<ExecutableElement> open) {
            if (open.contains(method)) {
                return 1001;
            }
            open.add(method);
            int deepest = 0;
            for (ExecutableElement called : calls.getOrDefault(method, Set.of())) {
                boolean isMaking = called.getSimpleName().contentEquals("<init>") && !isOwn(called);
                if (!isMaking) {
                    deepest = Math.max(deepest, depthOf(called, open));
                    for (ExecutableElement other : calls.keySet()) {
                        if (overrides(other, called)) {
                            deepest = Math.max(deepest, depthOf(other, open));
                        }
                    }
                }
            }
            open.remove(open.size() - 1);
            return deepest + 1;
        }

        private boolean overrides(ExecutableElement other, ExecutableElement called) {
            return other.getEnclosingElement() instanceof TypeElement type && task.getElements().overrides(other, called, type);
        }
    }
}
