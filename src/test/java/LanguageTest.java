import com.sun.source.tree.ArrayAccessTree;
import com.sun.source.tree.ClassTree;
import com.sun.source.tree.CompilationUnitTree;
import com.sun.source.tree.ForLoopTree;
import com.sun.source.tree.IdentifierTree;
import com.sun.source.tree.LiteralTree;
import com.sun.source.tree.MemberSelectTree;
import com.sun.source.tree.MethodTree;
import com.sun.source.tree.NewArrayTree;
import com.sun.source.tree.NewClassTree;
import com.sun.source.tree.Tree;
import com.sun.source.tree.TypeCastTree;
import com.sun.source.tree.VariableTree;
import com.sun.source.util.JavacTask;
import com.sun.source.util.TreePath;
import com.sun.source.util.TreePathScanner;
import com.sun.source.util.Trees;
import java.io.IOException;
import java.nio.file.Path;
import java.util.ArrayList;
import java.util.EnumSet;
import java.util.List;
import java.util.Map;
import java.util.Set;
import java.util.TreeMap;
import java.util.TreeSet;
import javax.lang.model.element.Element;
import javax.lang.model.element.ElementKind;
import javax.lang.model.element.ExecutableElement;
import javax.lang.model.element.Modifier;
import javax.lang.model.element.VariableElement;
import javax.lang.model.type.TypeMirror;
import javax.tools.JavaCompiler;
import javax.tools.StandardJavaFileManager;
import javax.tools.ToolProvider;

/**
 * The source keeps to ../shared/LANGUAGE.md, as far as its tree tells it. Of what a rule allows this test allows just what
 * the source needs, so that whoever needs more looks the rule up first.
 */
public final class LanguageTest extends TreePathScanner<Void, Void> {
    private static final int MOST_LINES = 60, MOST_PARAMETERS = 7, MOST_DEEP = 8, MOST_CLASSES = 12, MOST_FIELDS = 20;
    private static final Set<String> LIBRARY = Set.of("java.util.Arrays.fill", "java.lang.System.arraycopy", "java.lang.Math.max",
        "java.lang.Math.min", "java.lang.Math.abs", "java.lang.Integer.bitCount", "java.lang.Object.<init>");
    private static final Set<String> TYPES = Set.of("int", "long", "boolean", "int[]", "LeeVanes.Sheet", "LeeVanes.Sheet[]",
        "LeeVanes.Town", "LeeVanes.TextReader");
    /** These look at an index themselves ahead of its use; all others read and write by them. */
    private static final Set<String> MAY_INDEX = Set.of("LeeVanes.read", "LeeVanes.write", "LeeVanes.sheetAt", "LeeVanes.<init>");
    private static final Set<Tree.Kind> LEFT_OUT = EnumSet.of(Tree.Kind.DIVIDE, Tree.Kind.REMAINDER, Tree.Kind.DIVIDE_ASSIGNMENT,
        Tree.Kind.REMAINDER_ASSIGNMENT, Tree.Kind.THROW, Tree.Kind.TRY, Tree.Kind.SYNCHRONIZED, Tree.Kind.ASSERT,
        Tree.Kind.LAMBDA_EXPRESSION, Tree.Kind.MEMBER_REFERENCE, Tree.Kind.STRING_LITERAL, Tree.Kind.DO_WHILE_LOOP,
        Tree.Kind.ENHANCED_FOR_LOOP, Tree.Kind.INSTANCE_OF, Tree.Kind.LABELED_STATEMENT);

    private final Trees trees;
    private final CompilationUnitTree unit;
    private final Map<String, Set<String>> calls = new TreeMap<>();
    private final List<String> wrong = new ArrayList<>();
    private String method = "";
    private int classes = 0;

    private LanguageTest(Trees trees, CompilationUnitTree unit) {
        this.trees = trees;
        this.unit = unit;
    }

    public static void main(String[] args) throws IOException {
        JavaCompiler javac = ToolProvider.getSystemJavaCompiler();
        try (StandardJavaFileManager files = javac.getStandardFileManager(null, null, null)) {
            JavacTask task = (JavacTask) javac.getTask(null, files, null, List.of("-proc:none"), null,
                files.getJavaFileObjects(Path.of("src/main/java/LeeVanes.java")));
            CompilationUnitTree unit = task.parse().iterator().next();
            task.analyze();
            new LanguageTest(Trees.instance(task), unit).all();
        }
    }

    private void all() {
        scan(unit, null);
        due(calls.size() > 33, unit, "just " + calls.size() + " methods were seen");
        due(unit.getPackageName() == null, unit, "there is a package line");
        due(classes > 1 && classes <= MOST_CLASSES, unit, "there are " + classes + " classes (rule 11)");
        for (String start : calls.keySet()) {
            int deep = depth(start, new ArrayList<>());
            due(deep <= MOST_DEEP, unit, start + " goes " + deep + " calls deep (rule 11)");
        }
        wrong.forEach(System.out::println);
        System.out.println(wrong.isEmpty() ? "the language is as due" : "the language is not as due");
        if (!wrong.isEmpty()) {
            System.exit(1);
        }
    }

    private void due(boolean holds, Tree at, String what) {
        if (!holds) {
            wrong.add("line " + line(trees.getSourcePositions().getStartPosition(unit, at)) + ": " + what);
        }
    }

    private long line(long place) {
        return place < 0 ? 0 : unit.getLineMap().getLineNumber(place);
    }

    /** How many calls stand open at once, this one among them. */
    private int depth(String start, List<String> open) {
        if (open.contains(start)) {
            due(false, unit, start + " comes to itself again: " + open + " (rule 8)");
            return 0;
        }
        List<String> more = new ArrayList<>(open);
        more.add(start);
        int deepest = 0;
        for (String called : calls.getOrDefault(start, Set.of())) {
            deepest = Math.max(deepest, depth(called, more));
        }
        return deepest + 1;
    }

    // ---- classes, fields, methods

    @Override public Void visitClass(ClassTree t, Void p) {
        classes++;
        Element e = trees.getElement(getCurrentPath());
        boolean isInside = e.getEnclosingElement().getKind() == ElementKind.CLASS;
        due(t.getKind() == Tree.Kind.CLASS && e.getSimpleName().length() > 0, t, "no plain class (rule 2)");
        due(!isInside || e.getModifiers().contains(Modifier.STATIC), t, "a class inside is not static (rule 2)");
        int fields = 0;
        for (Tree member : t.getMembers()) {
            due(member.getKind() != Tree.Kind.BLOCK, member, "a block of its own (rule 5)");
            boolean isField = member instanceof VariableTree;
            fields += isField && !((VariableTree) member).getModifiers().getFlags().contains(Modifier.STATIC) ? 1 : 0;
        }
        due(fields <= MOST_FIELDS, t, fields + " fields (rule 11)");
        return super.visitClass(t, p);
    }

    @Override public Void visitVariable(VariableTree t, Void p) {
        Element e = trees.getElement(getCurrentPath());
        due(TYPES.contains(e.asType().toString()), t, "a " + e.asType() + " (rule 3)");
        if (e.getModifiers().contains(Modifier.STATIC)) {
            boolean isRow = t.getInitializer() instanceof NewArrayTree && ((NewArrayTree) t.getInitializer()).getType() == null;
            boolean isConstant = ((VariableElement) e).getConstantValue() != null;
            due(e.getModifiers().contains(Modifier.FINAL) && (isRow || isConstant), t, "no constant (rule 5)");
        }
        return super.visitVariable(t, p);
    }

    @Override public Void visitMethod(MethodTree t, Void p) {
        String around = method;
        method = name(trees.getElement(getCurrentPath()));
        due(!calls.containsKey(method), t, method + " bears a name twice");
        calls.put(method, new TreeSet<>());
        long start = trees.getSourcePositions().getStartPosition(unit, t);
        long end = trees.getSourcePositions().getEndPosition(unit, t);
        due(line(end) - line(start) < MOST_LINES, t, method + " is too long (rule 11)");
        due(t.getParameters().size() <= MOST_PARAMETERS, t, method + " takes too much (rule 11)");
        super.visitMethod(t, p);
        method = around;
        return null;
    }

    private static String name(Element e) {
        return e.getEnclosingElement() + "." + e.getSimpleName();
    }

    // ---- what is used

    @Override public Void visitIdentifier(IdentifierTree t, Void p) {
        uses(trees.getElement(getCurrentPath()), t);
        return super.visitIdentifier(t, p);
    }

    @Override public Void visitMemberSelect(MemberSelectTree t, Void p) {
        uses(trees.getElement(getCurrentPath()), t);
        return super.visitMemberSelect(t, p);
    }

    private void uses(Element e, Tree at) {
        if (e instanceof ExecutableElement && !method.isEmpty()) {
            boolean isOwn = name(e).startsWith("LeeVanes.");
            due(isOwn || LIBRARY.contains(name(e)), at, name(e) + " (rule 4)");
            if (isOwn) {
                calls.get(method).add(name(e));
            }
        }
    }

    @Override public Void visitNewClass(NewClassTree t, Void p) {
        due(t.getClassBody() == null, t, "a class without a name (rule 2)");
        due(isMadeOnce(), t, "an object outside the constructor and the fields (NOTES.md)");
        return super.visitNewClass(t, p);
    }

    @Override public Void visitNewArray(NewArrayTree t, Void p) {
        due(isMadeOnce() && t.getDimensions().size() <= 1, t, "an array outside the constructor and the fields (NOTES.md)");
        for (Tree length : t.getDimensions()) {
            Element e = trees.getElement(new TreePath(getCurrentPath(), length));
            boolean isConstant = e == null || e instanceof VariableElement && ((VariableElement) e).getConstantValue() != null;
            due(isConstant, t, "a length that is no constant");
        }
        return super.visitNewArray(t, p);
    }

    private boolean isMadeOnce() {
        return method.isEmpty() || method.equals("LeeVanes.<init>");
    }

    @Override public Void visitArrayAccess(ArrayAccessTree t, Void p) {
        due(MAY_INDEX.contains(method), t, method + " uses an index by itself (rule 7)");
        return super.visitArrayAccess(t, p);
    }

    @Override public Void visitTypeCast(TypeCastTree t, Void p) {
        TypeMirror type = trees.getTypeMirror(getCurrentPath());
        due(type.getKind().isPrimitive(), t, "a cast to " + type);
        return super.visitTypeCast(t, p);
    }

    // ---- loops

    @Override public Void visitForLoop(ForLoopTree t, Void p) {
        boolean isBounded = t.getCondition() != null && t.getInitializer().size() == 1 && t.getUpdate().size() == 1;
        due(isBounded, t, "a loop without its counter (rule 9)");
        return super.visitForLoop(t, p);
    }

    @Override public Void visitLiteral(LiteralTree t, Void p) {
        boolean isWhole = t.getKind() != Tree.Kind.DOUBLE_LITERAL && t.getKind() != Tree.Kind.FLOAT_LITERAL;
        due(isWhole, t, "no whole number");
        return super.visitLiteral(t, p);
    }

    @Override public Void scan(Tree t, Void p) {
        if (t != null) {
            due(!LEFT_OUT.contains(t.getKind()), t, t.getKind() + " (rules 2, 6, 7, 9, 10)");
        }
        return super.scan(t, p);
    }
}
