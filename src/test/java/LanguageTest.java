import com.sun.source.tree.BinaryTree;
import com.sun.source.tree.ClassTree;
import com.sun.source.tree.CompilationUnitTree;
import com.sun.source.tree.ExpressionTree;
import com.sun.source.tree.LineMap;
import com.sun.source.tree.LiteralTree;
import com.sun.source.tree.MethodInvocationTree;
import com.sun.source.tree.MethodTree;
import com.sun.source.tree.NewClassTree;
import com.sun.source.tree.Tree;
import com.sun.source.tree.TypeCastTree;
import com.sun.source.tree.VariableTree;
import com.sun.source.util.JavacTask;
import com.sun.source.util.SourcePositions;
import com.sun.source.util.TreePath;
import com.sun.source.util.TreePathScanner;
import com.sun.source.util.Trees;
import java.lang.reflect.Constructor;
import java.lang.reflect.Field;
import java.lang.reflect.Method;
import java.lang.reflect.Modifier;
import java.nio.file.Path;
import java.util.ArrayDeque;
import java.util.ArrayList;
import java.util.Deque;
import java.util.HashSet;
import java.util.LinkedHashMap;
import java.util.List;
import java.util.Map;
import java.util.Set;
import java.util.TreeSet;
import javax.lang.model.element.Element;
import javax.lang.model.element.ElementKind;
import javax.lang.model.element.ExecutableElement;
import javax.lang.model.element.TypeElement;
import javax.lang.model.type.TypeKind;
import javax.lang.model.type.TypeMirror;
import javax.tools.JavaCompiler;
import javax.tools.StandardJavaFileManager;
import javax.tools.ToolProvider;

/** The face of the document, and what of LANGUAGE.md can be read off the file. */
public final class LanguageTest {
    private static final Due DUE = new Due("LanguageTest");
    private static final Set<String> FACE = Set.of("feed 5", "end 1", "hall 0", "rule 0", "force 1",
            "thing 2", "mender 2", "sort 2", "minute 0", "give 2", "putDown 1", "bring 1",
            "coffee 2", "undo 0", "ahead 3", "done 1", "waits 1", "take 2", "match 1", "swap 1",
            "part 1", "askIn 1", "late 1", "idle 1", "book 3", "ruled 1", "look 2", "seed 1",
            "saturdays 3", "count 1", "image 1", "back 1");
    private static final Set<String> LIBRARY = Set.of("String.length", "String.charAt", "Math.min",
            "Math.max", "Integer.bitCount", "System.arraycopy", "Arrays.fill", "Arrays.copyOf",
            "Object.<init>");
    private static final Set<Tree.Kind> RULED_OUT = Set.of(Tree.Kind.LAMBDA_EXPRESSION,
            Tree.Kind.MEMBER_REFERENCE, Tree.Kind.THROW, Tree.Kind.TRY, Tree.Kind.CATCH,
            Tree.Kind.SYNCHRONIZED, Tree.Kind.ASSERT, Tree.Kind.SWITCH_EXPRESSION, Tree.Kind.ANNOTATION);

    public static void main(String[] args) throws Exception {
        face();
        readFile();
        DUE.finish();
    }

    private static void face() {
        DUE.holds("public", Modifier.isPublic(MendHall.class.getModifiers()));
        DUE.holds("final", Modifier.isFinal(MendHall.class.getModifiers()));
        Set<String> found = new TreeSet<>();
        for (Method m : MendHall.class.getDeclaredMethods()) {
            boolean isPublic = Modifier.isPublic(m.getModifiers());
            DUE.holds(m + " is public or private", isPublic
                    || Modifier.isPrivate(m.getModifiers()));
            if (isPublic) {
                found.add(m.getName() + " " + m.getParameterCount());
                DUE.holds(m + " answers an int", m.getReturnType() == int.class);
                for (Class<?> type : m.getParameterTypes()) {
                    DUE.holds(m + " takes ints", type == int.class);
                }
            }
        }
        DUE.holds("the methods " + found, found.equals(new TreeSet<>(FACE)));
        Constructor<?>[] made = MendHall.class.getDeclaredConstructors();
        DUE.is("constructors", made.length, 1);
        DUE.holds("public", Modifier.isPublic(made[0].getModifiers()));
        DUE.is("parameters", made[0].getParameterCount(), 0);
        for (Field f : MendHall.class.getDeclaredFields()) {
            DUE.holds(f + " is private or NONE", Modifier.isPrivate(f.getModifiers())
                    || f.getName().equals("NONE"));
        }
        for (Class<?> c : MendHall.class.getDeclaredClasses()) {
            DUE.holds(c + " is static and not public", Modifier.isStatic(c.getModifiers())
                    && !Modifier.isPublic(c.getModifiers())
                    && !Modifier.isProtected(c.getModifiers()));
        }
    }

    private static void readFile() throws Exception {
        JavaCompiler compiler = ToolProvider.getSystemJavaCompiler();
        try (StandardJavaFileManager files = compiler.getStandardFileManager(null, null, null)) {
            JavacTask task = (JavacTask) compiler.getTask(null, files, null,
                    List.of("-proc:none"), null,
                    files.getJavaFileObjects(Path.of("src/main/java/MendHall.java")));
            CompilationUnitTree unit = task.parse().iterator().next();
            task.analyze();
            FileReader reader = new FileReader(unit, Trees.instance(task));
            reader.scan(unit, null);
            DUE.holds("no package line", unit.getPackage() == null);
            DUE.holds("twelve classes", reader.classes <= 12);
            reader.checkCalls();
        }
    }

    /** Looks at each class, field, method and expression of the file. */
    private static final class FileReader extends TreePathScanner<Void, Void> {
        private final CompilationUnitTree unit;
        private final Trees trees;
        private final SourcePositions positions;
        private final LineMap lines;
        private final Map<Element, Set<Element>> calls = new LinkedHashMap<>();
        private Element method;
        private int classes;

        FileReader(CompilationUnitTree unit, Trees trees) {
            this.unit = unit;
            this.trees = trees;
            positions = trees.getSourcePositions();
            lines = unit.getLineMap();
        }

        @Override
        public Void scan(Tree tree, Void none) {
            if (tree != null) {
                DUE.holds(tree.getKind() + " is ruled out: " + tree,
                        !RULED_OUT.contains(tree.getKind()));
            }
            return super.scan(tree, none);
        }

        @Override
        public Void visitClass(ClassTree tree, Void none) {
            classes++;
            int fields = 0;
            for (Tree member : tree.getMembers()) {
                DUE.holds("no block in " + tree.getSimpleName(),
                        member.getKind() != Tree.Kind.BLOCK);
                Element element = trees.getElement(new TreePath(getCurrentPath(), member));
                if (element != null && element.getKind() == ElementKind.FIELD) {
                    boolean isStatic = element.getModifiers()
                            .contains(javax.lang.model.element.Modifier.STATIC);
                    fields += isStatic ? 0 : 1;
                    DUE.holds(element + " is final if static", !isStatic || element.getModifiers()
                            .contains(javax.lang.model.element.Modifier.FINAL));
                    DUE.holds(element + " is a constant if static", !isStatic
                            || element.asType().getKind().isPrimitive()
                            || element.asType().toString().equals("java.lang.String"));
                }
            }
            DUE.holds("twenty fields in " + tree.getSimpleName(), fields <= 20);
            return super.visitClass(tree, none);
        }

        @Override
        public Void visitMethod(MethodTree tree, Void none) {
            Element before = method;
            method = trees.getElement(getCurrentPath());
            calls.putIfAbsent(method, new HashSet<>());
            DUE.holds("seven parameters of " + method, tree.getParameters().size() <= 7);
            if (tree.getBody() != null && positions.getStartPosition(unit, tree) >= 0) {
                long from = lines.getLineNumber(positions.getStartPosition(unit, tree));
                long to = lines.getLineNumber(positions.getEndPosition(unit, tree));
                DUE.holds("sixty lines of " + method, to - from < 60);
            }
            boolean isFace = method.getModifiers()
                    .contains(javax.lang.model.element.Modifier.PUBLIC);
            String name = tree.getName().toString();
            DUE.holds(name + " has a public one's name", isFace || FACE.stream()
                    .noneMatch(face -> face.startsWith(name + " ")));
            super.visitMethod(tree, none);
            method = before;
            return null;
        }

        @Override
        public Void visitMethodInvocation(MethodInvocationTree tree, Void none) {
            noteCall(trees.getElement(getCurrentPath()));
            return super.visitMethodInvocation(tree, none);
        }

        @Override
        public Void visitNewClass(NewClassTree tree, Void none) {
            DUE.holds("no anonymous class", tree.getClassBody() == null);
            noteCall(trees.getElement(getCurrentPath()));
            return super.visitNewClass(tree, none);
        }

        private void noteCall(Element called) {
            TypeElement owner = (TypeElement) called.getEnclosingElement();
            if (owner.getQualifiedName().toString().startsWith("MendHall")) {
                if (method != null) {
                    calls.get(method).add(called);
                }
                return;
            }
            String name = owner.getSimpleName() + "." + called.getSimpleName();
            DUE.holds(name + " is of the library", LIBRARY.contains(name));
        }

        @Override
        public Void visitVariable(VariableTree tree, Void none) {
            checkType(trees.getTypeMirror(new TreePath(getCurrentPath(), tree.getType())), tree);
            return super.visitVariable(tree, none);
        }

        private void checkType(TypeMirror type, Tree where) {
            TypeMirror inner = type;
            if (type.getKind() == TypeKind.ARRAY) {
                inner = ((javax.lang.model.type.ArrayType) type).getComponentType();
            }
            boolean isFine = inner.getKind() == TypeKind.INT || inner.getKind() == TypeKind.LONG
                    || inner.getKind() == TypeKind.BOOLEAN
                    || inner.toString().startsWith("MendHall.")
                    || type.toString().equals("java.lang.String");
            DUE.holds("the type of " + where, isFine);
        }

        @Override
        public Void visitTypeCast(TypeCastTree tree, Void none) {
            DUE.holds("a cast of numbers alone: " + tree, trees
                    .getTypeMirror(new TreePath(getCurrentPath(), tree.getType())).getKind()
                    .isPrimitive());
            return super.visitTypeCast(tree, none);
        }

        @Override
        public Void visitLiteral(LiteralTree tree, Void none) {
            if (tree.getValue() instanceof String) {
                String text = (String) tree.getValue();
                DUE.holds("the signs of " + tree, text.chars().allMatch(c -> c >= 1 && c < 128));
            }
            return super.visitLiteral(tree, none);
        }

        @Override
        public Void visitBinary(BinaryTree tree, Void none) {
            for (ExpressionTree side : List.of(tree.getLeftOperand(), tree.getRightOperand())) {
                TypeMirror type = trees.getTypeMirror(new TreePath(getCurrentPath(), side));
                DUE.holds("no text is joined or compared: " + tree,
                        !type.toString().equals("java.lang.String"));
            }
            return super.visitBinary(tree, none);
        }

        /** Each method that calls itself, by others too, counts once. */
        void checkCalls() {
            for (Element from : calls.keySet()) {
                if (from.getModifiers().contains(javax.lang.model.element.Modifier.PUBLIC)
                        && from instanceof ExecutableElement) {
                    List<Element> chain = longest(from, new ArrayDeque<>());
                    DUE.holds("eight deep: " + chain, chain.size() <= 8);
                }
            }
        }

        private List<Element> longest(Element from, Deque<Element> open) {
            open.push(from);
            List<Element> best = new ArrayList<>();
            for (Element to : calls.getOrDefault(from, Set.of())) {
                if (!open.contains(to)) {
                    List<Element> chain = longest(to, open);
                    if (chain.size() > best.size()) {
                        best = chain;
                    }
                }
            }
            open.pop();
            List<Element> chain = new ArrayList<>(List.of(from));
            chain.addAll(best);
            return chain;
        }
    }
}
