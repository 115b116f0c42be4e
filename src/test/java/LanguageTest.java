import com.sun.source.tree.AnnotationTree;
import com.sun.source.tree.ArrayTypeTree;
import com.sun.source.tree.AssertTree;
import com.sun.source.tree.BlockTree;
import com.sun.source.tree.ClassTree;
import com.sun.source.tree.CompilationUnitTree;
import com.sun.source.tree.DoWhileLoopTree;
import com.sun.source.tree.EnhancedForLoopTree;
import com.sun.source.tree.ExpressionStatementTree;
import com.sun.source.tree.ForLoopTree;
import com.sun.source.tree.ImportTree;
import com.sun.source.tree.InstanceOfTree;
import com.sun.source.tree.LambdaExpressionTree;
import com.sun.source.tree.LiteralTree;
import com.sun.source.tree.MemberReferenceTree;
import com.sun.source.tree.MethodInvocationTree;
import com.sun.source.tree.MethodTree;
import com.sun.source.tree.NewArrayTree;
import com.sun.source.tree.NewClassTree;
import com.sun.source.tree.SynchronizedTree;
import com.sun.source.tree.ThrowTree;
import com.sun.source.tree.Tree;
import com.sun.source.tree.TryTree;
import com.sun.source.tree.TypeCastTree;
import com.sun.source.tree.VariableTree;
import com.sun.source.tree.WhileLoopTree;
import com.sun.source.util.JavacTask;
import com.sun.source.util.TreePath;
import com.sun.source.util.TreePathScanner;
import com.sun.source.util.Trees;
import java.nio.file.Path;
import java.util.HashMap;
import java.util.HashSet;
import java.util.List;
import java.util.Map;
import java.util.Set;
import java.util.regex.Pattern;
import javax.lang.model.element.Element;
import javax.lang.model.element.ElementKind;
import javax.lang.model.element.ExecutableElement;
import javax.lang.model.element.Modifier;
import javax.lang.model.element.TypeElement;
import javax.tools.JavaCompiler;
import javax.tools.StandardJavaFileManager;
import javax.tools.ToolProvider;

/**
 * That SheetWar.java keeps to LANGUAGE.md, as far as its text shows that. It is stricter than the rules where the class
 * needs less than they leave: no class of the library but for four, no catch, no recursion, no loop but for one with a
 * counter, and nothing made but in constructors.
 */
public final class LanguageTest {
    private static final String SOURCE = "src/main/java/SheetWar.java";
    private static final int MOST_LINES = 60;
    private static final int MOST_PARAMETERS = 7;
    private static final int MOST_DEPTH = 8;
    private static final int MOST_CLASSES = 12;
    private static final int MOST_FIELDS = 20;

    private static final Set<String> THROWN = Set.of("IllegalArgumentException", "IllegalStateException");
    private static final Pattern LIBRARY = Pattern.compile(
            "java\\.lang\\.(Integer|Math)\\.(?!.*Exact$)\\w+|java\\.lang\\.System\\.arraycopy"
            + "|java\\.util\\.Arrays\\.(copyOf|copyOfRange|fill)|java\\.lang\\.Object\\.<init>");
    private static final Pattern TYPE = Pattern.compile("(int|long|boolean|WarMap|Sheet|Settling|Aside|Past)(\\[\\])?");

    private static final Check CHECK = new Check("LanguageTest");

    public static void main(String[] args) throws Exception {
        JavaCompiler compiler = ToolProvider.getSystemJavaCompiler();
        try (StandardJavaFileManager files = compiler.getStandardFileManager(null, null, null)) {
            JavacTask task = (JavacTask) compiler.getTask(null, files, null, List.of("-proc:none"), null,
                    files.getJavaFileObjects(Path.of(SOURCE)));
            for (CompilationUnitTree unit : task.parse()) {
                task.analyze();
                Reader reader = new Reader(Trees.instance(task), unit);
                reader.scan(unit, null);
                reader.end();
            }
        }
        CHECK.end();
    }

    private static void check(String what, boolean holds) {
        CHECK.due(what, holds, true);
    }

    private static final class Reader extends TreePathScanner<Void, Void> {
        private final Trees trees;
        private final CompilationUnitTree unit;
        private final Map<Element, Set<Element>> calls = new HashMap<>();
        private final Set<String> faceNames = new HashSet<>();
        private final Set<String> otherNames = new HashSet<>();
        private int classes;

        Reader(Trees trees, CompilationUnitTree unit) {
            this.trees = trees;
            this.unit = unit;
            check("no package line", unit.getPackageName() == null);
            check("one class at the top", unit.getTypeDecls().size() == 1);
        }

        void end() {
            check("rule 11: " + classes + " classes", classes <= MOST_CLASSES);
            otherNames.retainAll(faceNames);
            check("rule 1: names of the face for others: " + otherNames, otherNames.isEmpty());
            for (Element method : calls.keySet()) {
                int depth = depth(method, new HashSet<>());
                check("rules 8, 11: calls under " + method + " go " + depth + " deep", depth <= MOST_DEPTH);
            }
        }

        /** The calls that stand open at once, this one among them; a ring of calls counts as endless. */
        private int depth(Element method, Set<Element> above) {
            if (!above.add(method)) {
                return Integer.MAX_VALUE / 2;
            }
            int deepest = 0;
            for (Element called : calls.getOrDefault(method, Set.of())) {
                deepest = Math.max(deepest, depth(called, above));
            }
            above.remove(method);
            return deepest + 1;
        }

        private String where(Tree tree) {
            long start = trees.getSourcePositions().getStartPosition(unit, tree);
            return "line " + unit.getLineMap().getLineNumber(start) + ", ";
        }

        private void never(Tree tree, String what) {
            check(where(tree) + what, false);
        }

        private Element element() {
            return trees.getElement(getCurrentPath());
        }

        private MethodTree method() {
            TreePath path = getCurrentPath();
            while (path != null && !(path.getLeaf() instanceof MethodTree)) {
                path = path.getParentPath();
            }
            return path == null ? null : (MethodTree) path.getLeaf();
        }

        private boolean isInMethod() {
            MethodTree method = method();
            return method != null && method.getReturnType() != null;
        }

        @Override
        public Void visitImport(ImportTree tree, Void none) {
            check("rule 4: " + tree, tree.getQualifiedIdentifier().toString().equals("java.util.Arrays"));
            return null;
        }

        @Override
        public Void visitClass(ClassTree tree, Void none) {
            classes++;
            check(where(tree) + "rule 2: a class in a method", method() == null);
            TypeElement type = (TypeElement) element();
            boolean isOuter = type.getSimpleName().contentEquals("SheetWar");
            Set<Modifier> own = isOuter ? Set.of(Modifier.PUBLIC, Modifier.FINAL)
                    : Set.of(Modifier.PRIVATE, Modifier.STATIC, Modifier.FINAL);
            check(where(tree) + "rule 1: how " + type + " is declared", type.getModifiers().equals(own));
            check(where(tree) + "rule 2: " + type + " is of no other kind",
                    type.getKind() == ElementKind.CLASS && tree.getExtendsClause() == null
                            && tree.getImplementsClause().isEmpty() && tree.getTypeParameters().isEmpty());
            int fields = 0;
            for (Element member : type.getEnclosedElements()) {
                boolean isField = member.getKind() == ElementKind.FIELD;
                fields += isField && !member.getModifiers().contains(Modifier.STATIC) ? 1 : 0;
                if (isField && member.getModifiers().contains(Modifier.STATIC)) {
                    check("rule 5: " + member + " is a constant number",
                            member.getModifiers().contains(Modifier.FINAL) && member.asType().getKind().isPrimitive());
                }
            }
            check(where(tree) + "rule 11: " + fields + " fields", fields <= MOST_FIELDS);
            return super.visitClass(tree, none);
        }

        @Override
        public Void visitMethod(MethodTree tree, Void none) {
            ExecutableElement method = (ExecutableElement) element();
            calls.putIfAbsent(method, new HashSet<>());
            if (method.getKind() == ElementKind.METHOD) {
                Set<String> names = method.getModifiers().contains(Modifier.PUBLIC) ? faceNames : otherNames;
                names.add(tree.getName().toString());
            }
            checkSize(tree);
            for (Tree thrown : tree.getThrows()) {
                check(where(tree) + "rule 6: throws " + thrown, THROWN.contains(thrown.toString()));
            }
            if (tree.getReturnType() != null && !tree.getReturnType().toString().equals("void")) {
                check(where(tree) + "rule 3: " + tree.getReturnType(), fits(tree.getReturnType()));
            }
            return super.visitMethod(tree, none);
        }

        private void checkSize(MethodTree tree) {
            long start = trees.getSourcePositions().getStartPosition(unit, tree);
            long end = trees.getSourcePositions().getEndPosition(unit, tree);
            if (start >= 0 && end > start) {
                long lines = unit.getLineMap().getLineNumber(end) - unit.getLineMap().getLineNumber(start) + 1;
                check(where(tree) + "rule 11: " + lines + " lines", lines <= MOST_LINES);
            }
            check(where(tree) + "rule 11: parameters", tree.getParameters().size() <= MOST_PARAMETERS);
        }

        private static boolean fits(Tree type) {
            boolean twoDimensions = type instanceof ArrayTypeTree array && array.getType() instanceof ArrayTypeTree;
            return !twoDimensions && TYPE.matcher(type.toString()).matches();
        }

        @Override
        public Void visitVariable(VariableTree tree, Void none) {
            check(where(tree) + "rule 3: " + tree.getType(), fits(tree.getType()));
            return super.visitVariable(tree, none);
        }

        @Override
        public Void visitBlock(BlockTree tree, Void none) {
            check(where(tree) + "rule 5: an initialiser block", method() != null);
            return super.visitBlock(tree, none);
        }

        @Override
        public Void visitMethodInvocation(MethodInvocationTree tree, Void none) {
            noteCall(tree, element());
            return super.visitMethodInvocation(tree, none);
        }

        private void noteCall(Tree tree, Element called) {
            String owner = called.getEnclosingElement().toString();
            if (!owner.startsWith("SheetWar")) {
                String name = owner + "." + called.getSimpleName();
                check(where(tree) + "rules 4, 13: " + name, LIBRARY.matcher(name).matches());
            }
            MethodTree caller = method();
            if (caller != null) {
                Element from = trees.getElement(trees.getPath(unit, caller));
                calls.computeIfAbsent(from, key -> new HashSet<>()).add(called);
            }
        }

        @Override
        public Void visitThrow(ThrowTree tree, Void none) {
            check(where(tree) + "rule 6: a throw in a constructor", isInMethod());
            boolean isNew = tree.getExpression() instanceof NewClassTree;
            check(where(tree) + "rule 6: throws what it makes", isNew);
            if (isNew) {
                NewClassTree made = (NewClassTree) tree.getExpression();
                check(where(tree) + "rule 6: " + made.getIdentifier(),
                        THROWN.contains(made.getIdentifier().toString()) && made.getArguments().isEmpty());
            }
            return null;
        }

        @Override
        public Void visitNewClass(NewClassTree tree, Void none) {
            check(where(tree) + "rule 12: an object made in a call", !isInMethod());
            check(where(tree) + "rule 2: an anonymous class", tree.getClassBody() == null);
            noteCall(tree, element());
            return super.visitNewClass(tree, none);
        }

        @Override
        public Void visitNewArray(NewArrayTree tree, Void none) {
            check(where(tree) + "rule 12: an array made in a call", !isInMethod());
            return super.visitNewArray(tree, none);
        }

        @Override
        public Void visitForLoop(ForLoopTree tree, Void none) {
            boolean isCounted = tree.getInitializer().size() == 1 && tree.getUpdate().size() == 1
                    && tree.getInitializer().get(0) instanceof VariableTree;
            if (isCounted) {
                String counter = ((VariableTree) tree.getInitializer().get(0)).getName().toString();
                String bound = String.valueOf(tree.getCondition());
                String step = ((ExpressionStatementTree) tree.getUpdate().get(0)).getExpression().toString();
                boolean up = step.equals(counter + "++") && bound.matches(counter + " < (?!.*\\|\\|).*");
                boolean down = step.equals(counter + "--") && bound.equals(counter + " >= 0");
                isCounted = (up || down) && !isSetIn(tree.getStatement(), counter);
            }
            check(where(tree) + "rule 9: a loop's end", isCounted);
            return super.visitForLoop(tree, none);
        }

        private static boolean isSetIn(Tree body, String counter) {
            String setting = "(?s).*(\\b" + counter + "(\\+\\+|--| ([-+*/%&|^]|<<|>>)?= )|(\\+\\+|--)" + counter
                    + "\\b).*";
            return body.toString().matches(setting);
        }

        @Override
        public Void visitWhileLoop(WhileLoopTree tree, Void none) {
            never(tree, "rule 9: a loop without a counter");
            return super.visitWhileLoop(tree, none);
        }

        @Override
        public Void visitDoWhileLoop(DoWhileLoopTree tree, Void none) {
            never(tree, "rule 9: a loop without a counter");
            return super.visitDoWhileLoop(tree, none);
        }

        @Override
        public Void visitEnhancedForLoop(EnhancedForLoopTree tree, Void none) {
            never(tree, "rule 9: a loop without a counter");
            return super.visitEnhancedForLoop(tree, none);
        }

        @Override
        public Void visitLambdaExpression(LambdaExpressionTree tree, Void none) {
            never(tree, "rule 2: a lambda");
            return null;
        }

        @Override
        public Void visitMemberReference(MemberReferenceTree tree, Void none) {
            never(tree, "rule 2: a method reference");
            return null;
        }

        @Override
        public Void visitTry(TryTree tree, Void none) {
            never(tree, "rule 6: a try");
            return super.visitTry(tree, none);
        }

        @Override
        public Void visitSynchronized(SynchronizedTree tree, Void none) {
            never(tree, "rule 6: synchronized");
            return super.visitSynchronized(tree, none);
        }

        @Override
        public Void visitAssert(AssertTree tree, Void none) {
            never(tree, "rule 6: an assert");
            return null;
        }

        @Override
        public Void visitTypeCast(TypeCastTree tree, Void none) {
            never(tree, "rule 6: a cast");
            return super.visitTypeCast(tree, none);
        }

        @Override
        public Void visitInstanceOf(InstanceOfTree tree, Void none) {
            never(tree, "rule 6: a test of a type");
            return super.visitInstanceOf(tree, none);
        }

        @Override
        public Void visitAnnotation(AnnotationTree tree, Void none) {
            never(tree, "an annotation");
            return null;
        }

        @Override
        public Void visitLiteral(LiteralTree tree, Void none) {
            check(where(tree) + "rule 3: a text", !(tree.getValue() instanceof String));
            return null;
        }
    }
}
