import com.sun.source.tree.AssertTree;
import com.sun.source.tree.BinaryTree;
import com.sun.source.tree.BlockTree;
import com.sun.source.tree.ClassTree;
import com.sun.source.tree.CompilationUnitTree;
import com.sun.source.tree.CompoundAssignmentTree;
import com.sun.source.tree.ImportTree;
import com.sun.source.tree.LambdaExpressionTree;
import com.sun.source.tree.LiteralTree;
import com.sun.source.tree.MemberReferenceTree;
import com.sun.source.tree.MemberSelectTree;
import com.sun.source.tree.MethodInvocationTree;
import com.sun.source.tree.MethodTree;
import com.sun.source.tree.NewArrayTree;
import com.sun.source.tree.NewClassTree;
import com.sun.source.tree.SwitchExpressionTree;
import com.sun.source.tree.SwitchTree;
import com.sun.source.tree.SynchronizedTree;
import com.sun.source.tree.ThrowTree;
import com.sun.source.tree.Tree;
import com.sun.source.tree.TryTree;
import com.sun.source.tree.TypeCastTree;
import com.sun.source.tree.VariableTree;
import com.sun.source.util.JavacTask;
import com.sun.source.util.TreePath;
import com.sun.source.util.TreePathScanner;
import com.sun.source.util.Trees;
import java.io.IOException;
import java.io.UncheckedIOException;
import java.lang.reflect.Constructor;
import java.lang.reflect.Field;
import java.lang.reflect.Method;
import java.lang.reflect.Modifier;
import java.nio.file.Files;
import java.nio.file.Path;
import java.util.ArrayList;
import java.util.HashMap;
import java.util.List;
import java.util.Map;
import java.util.Set;
import java.util.TreeSet;
import java.util.regex.Matcher;
import java.util.regex.Pattern;
import javax.lang.model.element.Element;
import javax.lang.model.element.ElementKind;
import javax.lang.model.element.TypeElement;
import javax.lang.model.type.TypeKind;
import javax.lang.model.type.TypeMirror;
import javax.tools.JavaCompiler;
import javax.tools.StandardJavaFileManager;
import javax.tools.ToolProvider;

/** The rules of ../shared/LANGUAGE.md, as far as a reader of the source can hold the class to them. */
final class LanguageTest {
    private static final Path SOURCE = Path.of("src/main/java/BlankRations.java");
    private static final Path DOC = Path.of("../shared/DOC.md");
    private static final int MOST_DEEP = 8;
    private static final int MOST_LINES = 60;
    private static final int MOST_PARAMETERS = 7;
    private static final int MOST_CLASSES = 12;
    private static final int MOST_FIELDS = 20;

    /** What the class may call that isn't its own: of rule 4, no more than it needs. */
    private static final Set<String> LIBRARY = Set.of(
            "java.lang.Object.<init>", "java.lang.Math.max", "java.lang.Math.min", "java.lang.Integer.bitCount",
            "java.lang.System.arraycopy", "java.lang.String.length", "java.lang.String.charAt");

    private LanguageTest() { }

    static void run() {
        try {
            face();
            source();
        } catch (IOException e) {
            throw new UncheckedIOException(e);
        }
    }

    // ---- rule 1: the face

    private static String signs(Class<?>[] types) {
        StringBuilder text = new StringBuilder();
        for (Class<?> type : types) {
            text.append(text.length() == 0 ? "" : ", ").append(type.getName());
        }
        return text.toString();
    }

    /** The face as the document's block tells it: "int feed(long, int)", "BlankRations()", "BAD". */
    private static Set<String> documented() throws IOException {
        Set<String> face = new TreeSet<>();
        String doc = Files.readString(DOC);
        int from = doc.indexOf("```java");
        String block = doc.substring(from, doc.indexOf("```", from + 3));
        Matcher m = Pattern.compile("public (?:(int|long) )?(\\w+)\\(([^)]*)\\);").matcher(block);
        while (m.find()) {
            String takes = m.group(3).replaceAll("(int|long) \\w+", "$1");
            face.add((m.group(1) == null ? "" : m.group(1) + " ") + m.group(2) + "(" + takes + ")");
        }
        face.addAll(Set.of("BAD", "FULL", "NONE"));
        return face;
    }

    private static void face() throws IOException {
        Set<String> face = new TreeSet<>();
        int mode = BlankRations.class.getModifiers();
        Check.holds("rule 1: the class is public and final", Modifier.isPublic(mode) && Modifier.isFinal(mode));
        for (Method method : BlankRations.class.getDeclaredMethods()) {
            if (!Modifier.isPrivate(method.getModifiers())) {
                face.add(method.getReturnType() + " " + method.getName() + "(" + signs(method.getParameterTypes()) + ")");
            }
        }
        for (Constructor<?> made : BlankRations.class.getDeclaredConstructors()) {
            face.add("BlankRations(" + signs(made.getParameterTypes()) + ")");
        }
        for (Field field : BlankRations.class.getDeclaredFields()) {
            if (!Modifier.isPrivate(field.getModifiers())) {
                face.add(field.getName());
            }
        }
        Set<String> want = documented();
        Check.due("rule 1: calls and constants of the document", want.size(), 47);
        if (!face.equals(want)) {
            System.out.println("the face is " + face + ", the document's " + want);
        }
        Check.holds("rule 1: the face is the document's", face.equals(want));
    }

    // ---- the other rules

    private static void source() throws IOException {
        JavaCompiler compiler = ToolProvider.getSystemJavaCompiler();
        try (StandardJavaFileManager files = compiler.getStandardFileManager(null, null, null)) {
            List<String> options = List.of("-proc:none");
            JavacTask task = (JavacTask) compiler.getTask(null, files, null, options, null,
                    files.getJavaFileObjects(SOURCE));
            Iterable<? extends CompilationUnitTree> units = task.parse();
            task.analyze();
            for (CompilationUnitTree unit : units) {
                Reader reader = new Reader(Trees.instance(task), unit);
                reader.scan(unit, null);
                reader.end();
            }
        }
    }

    private static final class Reader extends TreePathScanner<Void, Void> {
        private final Trees trees;
        private final CompilationUnitTree unit;
        private final Map<Element, Set<Element>> calls = new HashMap<>();
        private final Map<Element, Integer> depths = new HashMap<>();
        private final Set<String> faceNames = new TreeSet<>();
        private final List<String> otherNames = new ArrayList<>();
        private int classes = 0;

        Reader(Trees trees, CompilationUnitTree unit) {
            this.trees = trees;
            this.unit = unit;
        }

        private void must(String rule, Tree tree, boolean is) {
            long line = unit.getLineMap().getLineNumber(trees.getSourcePositions().getStartPosition(unit, tree));
            Check.holds("rule " + rule + " at line " + line, is);
        }

        private boolean isOwn(Element element) {
            Element at = element;
            while (at != null && !(at instanceof TypeElement && at.getEnclosingElement().getKind() == ElementKind.PACKAGE)) {
                at = at.getEnclosingElement();
            }
            return at != null && at.getSimpleName().contentEquals("BlankRations");
        }

        private boolean isText(Tree tree) {
            TypeMirror type = trees.getTypeMirror(new TreePath(getCurrentPath(), tree));
            return type != null && type.toString().equals("java.lang.String");
        }

        private Element methodAround() {
            for (TreePath path = getCurrentPath(); path != null; path = path.getParentPath()) {
                if (path.getLeaf() instanceof MethodTree) {
                    return trees.getElement(path);
                }
            }
            return null;
        }

        @Override public Void visitThrow(ThrowTree t, Void v) { must("6", t, false); return super.visitThrow(t, v); }
        @Override public Void visitTry(TryTree t, Void v) { must("6", t, false); return super.visitTry(t, v); }
        @Override public Void visitAssert(AssertTree t, Void v) { must("6", t, false); return super.visitAssert(t, v); }
        @Override public Void visitImport(ImportTree t, Void v) { must("4", t, false); return super.visitImport(t, v); }

        @Override public Void visitSynchronized(SynchronizedTree t, Void v) {
            must("6", t, false);
            return super.visitSynchronized(t, v);
        }

        @Override public Void visitLambdaExpression(LambdaExpressionTree t, Void v) {
            must("2", t, false);
            return super.visitLambdaExpression(t, v);
        }

        @Override public Void visitMemberReference(MemberReferenceTree t, Void v) {
            must("2", t, false);
            return super.visitMemberReference(t, v);
        }

        @Override public Void visitSwitchExpression(SwitchExpressionTree t, Void v) {
            must("6", t, !isText(t.getExpression()));
            return super.visitSwitchExpression(t, v);
        }

        @Override public Void visitSwitch(SwitchTree t, Void v) {
            must("6", t, !isText(t.getExpression()));
            return super.visitSwitch(t, v);
        }

        @Override public Void visitBinary(BinaryTree t, Void v) {
            boolean joins = isText(t.getLeftOperand()) || isText(t.getRightOperand());
            must("6 and 10", t, !joins);
            return super.visitBinary(t, v);
        }

        @Override public Void visitCompoundAssignment(CompoundAssignmentTree t, Void v) {
            must("10", t, !isText(t.getVariable()));
            return super.visitCompoundAssignment(t, v);
        }

        @Override public Void visitTypeCast(TypeCastTree t, Void v) {
            must("6", t, trees.getTypeMirror(new TreePath(getCurrentPath(), t.getType())).getKind().isPrimitive());
            return super.visitTypeCast(t, v);
        }

        @Override public Void visitLiteral(LiteralTree t, Void v) {
            boolean isPlain = !(t.getValue() instanceof String)
                    || ((String) t.getValue()).chars().allMatch(c -> c >= 1 && c <= 127);
            must("4", t, isPlain);
            return super.visitLiteral(t, v);
        }

        @Override public Void visitBlock(BlockTree t, Void v) {
            must("5", t, !(getCurrentPath().getParentPath().getLeaf() instanceof ClassTree));
            return super.visitBlock(t, v);
        }

        @Override public Void visitMemberSelect(MemberSelectTree t, Void v) {
            Element element = trees.getElement(getCurrentPath());
            boolean isField = element != null && element.getKind() == ElementKind.FIELD;
            boolean isLength = t.getIdentifier().contentEquals("length");
            must("4", t, !isField || isLength || isOwn(element));
            return super.visitMemberSelect(t, v);
        }

        @Override public Void visitClass(ClassTree t, Void v) {
            classes++;
            Element element = trees.getElement(getCurrentPath());
            Set<javax.lang.model.element.Modifier> modes = element.getModifiers();
            if (classes > 1) {
                must("2", t, modes.contains(javax.lang.model.element.Modifier.STATIC));
                must("1", t, !modes.contains(javax.lang.model.element.Modifier.PUBLIC));
                must("1", t, !modes.contains(javax.lang.model.element.Modifier.PROTECTED));
            }
            int fields = 0;
            for (Tree member : t.getMembers()) {
                if (member instanceof VariableTree && !isStatic((VariableTree) member)) {
                    fields++;
                }
            }
            must("11", t, fields <= MOST_FIELDS);
            return super.visitClass(t, v);
        }

        private static boolean isStatic(VariableTree t) {
            return t.getModifiers().getFlags().contains(javax.lang.model.element.Modifier.STATIC);
        }

        @Override public Void visitVariable(VariableTree t, Void v) {
            if (isStatic(t)) {
                must("5", t, t.getModifiers().getFlags().contains(javax.lang.model.element.Modifier.FINAL));
                must("5", t, t.getType().toString().matches("(int|long|char|byte)(\\[\\])?|boolean|String"));
            }
            TypeMirror type = trees.getTypeMirror(getCurrentPath());
            while (type.getKind() == TypeKind.ARRAY) {
                type = ((javax.lang.model.type.ArrayType) type).getComponentType();
            }
            boolean isPlain = type.getKind().isPrimitive() || type.toString().equals("java.lang.String");
            must("3", t, isPlain || type.toString().startsWith("BlankRations."));
            return super.visitVariable(t, v);
        }

        @Override public Void visitMethod(MethodTree t, Void v) {
            long from = trees.getSourcePositions().getStartPosition(unit, t);
            long to = trees.getSourcePositions().getEndPosition(unit, t);
            if (to >= 0) {
                long lines = unit.getLineMap().getLineNumber(to) - unit.getLineMap().getLineNumber(from) + 1;
                must("11", t, lines <= MOST_LINES);
            }
            must("11", t, t.getParameters().size() <= MOST_PARAMETERS);
            Element element = trees.getElement(getCurrentPath());
            calls.computeIfAbsent(element, e -> new java.util.HashSet<>());
            boolean isFace = element.getModifiers().contains(javax.lang.model.element.Modifier.PUBLIC);
            if (isFace) {
                faceNames.add(t.getName().toString());
            } else if (!t.getName().contentEquals("<init>")) {
                otherNames.add(t.getName().toString());
            }
            return super.visitMethod(t, v);
        }

        @Override public Void visitMethodInvocation(MethodInvocationTree t, Void v) {
            called(t, trees.getElement(getCurrentPath()));
            return super.visitMethodInvocation(t, v);
        }

        @Override public Void visitNewArray(NewArrayTree t, Void v) {
            must("12", t, isMadeOnce());
            return super.visitNewArray(t, v);
        }

        /** All that is made is made with the object and used again: the room is one for all calls. */
        private boolean isMadeOnce() {
            Element by = methodAround();
            return by == null || by.getKind() == ElementKind.CONSTRUCTOR;
        }

        @Override public Void visitNewClass(NewClassTree t, Void v) {
            must("2", t, t.getClassBody() == null);
            must("12", t, isMadeOnce());
            called(t, trees.getElement(getCurrentPath()));
            return super.visitNewClass(t, v);
        }

        private void called(Tree t, Element called) {
            if (isOwn(called)) {
                Element by = methodAround();
                if (by != null) {
                    calls.computeIfAbsent(by, e -> new java.util.HashSet<>()).add(called);
                }
                return;
            }
            must("4", t, LIBRARY.contains(called.getEnclosingElement() + "." + called.getSimpleName()));
        }

        /** How deep the calls of a method go, itself counted; a call of the library is one more. */
        private int depth(Element method, int open) {
            if (open > MOST_DEEP + 1) {
                return open;
            }
            Integer known = depths.get(method);
            if (known != null) {
                return known;
            }
            int deepest = 1;
            for (Element called : calls.getOrDefault(method, Set.of())) {
                deepest = Math.max(deepest, depth(called, open + 1));
            }
            depths.put(method, deepest + 1);
            return deepest + 1;
        }

        void end() {
            Check.holds("rule 11: classes", classes <= MOST_CLASSES);
            int deepest = 0;
            for (Element method : calls.keySet()) {
                depths.clear();
                deepest = Math.max(deepest, depth(method, 1));
            }
            Check.holds("rule 11: calls go " + deepest + " deep", deepest <= MOST_DEEP);
            for (String name : otherNames) {
                Check.holds("rule 1: " + name + " is no name of the face", !faceNames.contains(name));
            }
        }
    }
}
