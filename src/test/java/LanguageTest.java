import com.sun.source.tree.AssertTree;
import com.sun.source.tree.BinaryTree;
import com.sun.source.tree.BlockTree;
import com.sun.source.tree.ClassTree;
import com.sun.source.tree.CompilationUnitTree;
import com.sun.source.tree.ImportTree;
import com.sun.source.tree.InstanceOfTree;
import com.sun.source.tree.LambdaExpressionTree;
import com.sun.source.tree.MemberReferenceTree;
import com.sun.source.tree.MethodInvocationTree;
import com.sun.source.tree.MethodTree;
import com.sun.source.tree.NewClassTree;
import com.sun.source.tree.SynchronizedTree;
import com.sun.source.tree.ThrowTree;
import com.sun.source.tree.Tree;
import com.sun.source.tree.TryTree;
import com.sun.source.tree.TypeCastTree;
import com.sun.source.tree.VariableTree;
import com.sun.source.util.JavacTask;
import com.sun.source.util.SourcePositions;
import com.sun.source.util.TreePath;
import com.sun.source.util.TreePathScanner;
import com.sun.source.util.Trees;
import java.io.IOException;
import java.nio.file.Files;
import java.nio.file.Path;
import java.util.ArrayList;
import java.util.HashMap;
import java.util.HashSet;
import java.util.LinkedHashSet;
import java.util.List;
import java.util.Map;
import java.util.Set;
import javax.lang.model.element.Element;
import javax.lang.model.element.ElementKind;
import javax.lang.model.element.ExecutableElement;
import javax.lang.model.element.Modifier;
import javax.lang.model.element.TypeElement;
import javax.lang.model.element.VariableElement;
import javax.tools.JavaCompiler;
import javax.tools.StandardJavaFileManager;
import javax.tools.ToolProvider;

/** Looks in the program for what ../shared/LANGUAGE.md forbids, as far as it can be found in the text. */
public final class LanguageTest extends TreePathScanner<Void, Void> {
    private static final Check CHECK = new Check("LanguageTest");
    private static final Path PROGRAM = Path.of("src/main/java/MeetingServer.java");
    private static final Path DOCUMENT = Path.of("../shared/DOC.md");

    /** What of the library the program uses; LANGUAGE.md rule 4 allows each of these. */
    private static final Set<String> LIBRARY = Set.of(
            "java.util.Arrays.fill(int[],int)", "java.util.Arrays.fill(byte[],byte)", "Array.clone()",
            "java.lang.Integer.bitCount(int)", "java.lang.Long.bitCount(long)", "java.lang.Math.max(int,int)",
            "java.lang.StringBuilder.append(char)", "java.lang.StringBuilder.append(int)",
            "java.lang.StringBuilder.append(java.lang.String)", "java.lang.StringBuilder.length()",
            "java.lang.StringBuilder.charAt(int)");
    private static final Set<String> THROWN = Set.of("IllegalStateException", "IllegalArgumentException",
            "IndexOutOfBoundsException", "ArithmeticException", "UnsupportedOperationException",
            "NoSuchElementException", "RuntimeException");

    private final Trees trees;
    private final SourcePositions positions;
    private final CompilationUnitTree unit;
    private final Map<ExecutableElement, Set<ExecutableElement>> calls = new HashMap<>();
    private final Set<String> publicNames = new HashSet<>();
    private final Set<String> otherNames = new HashSet<>();
    private int classes;

    private LanguageTest(JavacTask task, CompilationUnitTree unit) {
        trees = Trees.instance(task);
        positions = trees.getSourcePositions();
        this.unit = unit;
    }

    public static void main(String[] args) throws IOException {
        JavaCompiler compiler = ToolProvider.getSystemJavaCompiler();
        try (StandardJavaFileManager files = compiler.getStandardFileManager(null, null, null)) {
            JavacTask task = (JavacTask) compiler.getTask(null, files, null, null, null,
                    files.getJavaFileObjects(PROGRAM));
            CompilationUnitTree unit = task.parse().iterator().next();
            task.analyze();
            LanguageTest test = new LanguageTest(task, unit);
            test.scan(unit, null);
            test.checkWhole();
        }
        checkFace();
        CHECK.end();
    }

    /** The document's face, line by line, is all that is public. */
    private static void checkFace() throws IOException {
        Set<String> face = new LinkedHashSet<>();
        for (String line : Files.readAllLines(DOCUMENT)) {
            if (line.startsWith("    public ")) {
                face.add(line.replace(";", "").strip());
            }
        }
        Set<String> got = new LinkedHashSet<>();
        for (String line : Files.readAllLines(PROGRAM)) {
            if (line.startsWith("    public ")) {
                got.add(line.replace(";", "").replace("{", "").strip());
            }
        }
        CHECK.due("rule 1: the face", String.join("\n", got), String.join("\n", face));
    }

    private void checkWhole() {
        CHECK.due("rule 11: at most 12 classes", classes <= 12, true);
        otherNames.retainAll(publicNames);
        CHECK.due("rule 1: private methods with the name of a public one", otherNames.toString(), "[]");
        for (ExecutableElement method : calls.keySet()) {
            CHECK.due("rules 8 and 11: calls under " + method + " at most eight deep",
                    depth(method, new ArrayList<>()) <= 8, true);
        }
    }

    private int depth(ExecutableElement method, List<ExecutableElement> open) {
        if (open.contains(method)) {
            return 1000;
        }
        open.add(method);
        int deepest = 0;
        for (ExecutableElement called : calls.getOrDefault(method, Set.of())) {
            deepest = Math.max(deepest, depth(called, open));
        }
        open.remove(open.size() - 1);
        return deepest + 1;
    }

    private void forbidden(Tree tree, String what) {
        long line = unit.getLineMap().getLineNumber(positions.getStartPosition(unit, tree));
        CHECK.due("line " + line, what, "nothing that is forbidden");
    }

    @Override
    public Void visitImport(ImportTree tree, Void nothing) {
        CHECK.due("rule 4: import", tree.getQualifiedIdentifier().toString(), "java.util.Arrays");
        return null;
    }

    @Override
    public Void visitClass(ClassTree tree, Void nothing) {
        classes++;
        TypeElement type = (TypeElement) trees.getElement(getCurrentPath());
        boolean isInside = type.getNestingKind().isNested();
        CHECK.due("rule 2: " + type + " is static, and not public",
                isInside == (type.getModifiers().contains(Modifier.STATIC)
                        && !type.getModifiers().contains(Modifier.PUBLIC)), true);
        int fields = 0;
        for (Element member : type.getEnclosedElements()) {
            Set<Modifier> modifiers = member.getModifiers();
            boolean isStatic = modifiers.contains(Modifier.STATIC);
            if (member.getKind() == ElementKind.FIELD) {
                fields += isStatic ? 0 : 1;
                CHECK.due("rule 5: " + member, isStatic && !isConstant(member), false);
            }
            if (!isInside && member.getKind() != ElementKind.CLASS) {
                CHECK.due("rule 1: " + member + " is public or private",
                        modifiers.contains(Modifier.PUBLIC) || modifiers.contains(Modifier.PRIVATE), true);
            }
        }
        CHECK.due("rule 11: fields of " + type + " at most twenty", fields <= 20, true);
        return super.visitClass(tree, nothing);
    }

    private static boolean isConstant(Element member) {
        return member.getModifiers().contains(Modifier.FINAL) && ((VariableElement) member).getConstantValue() != null;
    }

    @Override
    public Void visitMethod(MethodTree tree, Void nothing) {
        ExecutableElement method = (ExecutableElement) trees.getElement(getCurrentPath());
        calls.computeIfAbsent(method, any -> new LinkedHashSet<>());
        (method.getModifiers().contains(Modifier.PUBLIC) ? publicNames : otherNames).add(tree.getName().toString());
        otherNames.remove("<init>");
        long first = unit.getLineMap().getLineNumber(positions.getStartPosition(unit, tree));
        long last = unit.getLineMap().getLineNumber(positions.getEndPosition(unit, tree));
        CHECK.due("rule 11: lines of " + method + " at most sixty", last - first < 60, true);
        CHECK.due("rule 11: parameters of " + method + " at most seven", tree.getParameters().size() <= 7, true);
        return super.visitMethod(tree, nothing);
    }

    @Override
    public Void visitMethodInvocation(MethodInvocationTree tree, Void nothing) {
        note((ExecutableElement) trees.getElement(new TreePath(
                getCurrentPath(), tree.getMethodSelect())));
        return super.visitMethodInvocation(tree, nothing);
    }

    @Override
    public Void visitNewClass(NewClassTree tree, Void nothing) {
        note((ExecutableElement) trees.getElement(getCurrentPath()));
        return super.visitNewClass(tree, nothing);
    }

    /** A call: of the program's own it is kept for its depth, of the library it must be one that is allowed. */
    private void note(ExecutableElement called) {
        Element owner = called.getEnclosingElement();
        boolean isOwn = owner.toString().startsWith("MeetingServer");
        boolean isMade = called.getKind() == ElementKind.CONSTRUCTOR;
        if (isOwn) {
            Element caller = enclosingMethod();
            if (caller instanceof ExecutableElement method) {
                calls.computeIfAbsent(method, any -> new LinkedHashSet<>()).add(called);
            }
        } else if (isMade) {
            String name = owner.getSimpleName().toString();
            CHECK.due("rules 4 and 6: new " + name, THROWN.contains(name) || name.equals("StringBuilder")
                    || name.equals("Object"), true);
        } else {
            // the class above StringBuilder has some of its methods
            String name = (owner + "." + called).replace("AbstractStringBuilder", "StringBuilder");
            CHECK.due("rule 4: the library's " + name, LIBRARY.contains(name), true);
        }
    }

    private Element enclosingMethod() {
        TreePath path = getCurrentPath();
        while (path != null && path.getLeaf().getKind() != Tree.Kind.METHOD) {
            path = path.getParentPath();
        }
        return path == null ? null : trees.getElement(path);
    }

    @Override
    public Void visitThrow(ThrowTree tree, Void nothing) {
        CHECK.due("rule 6: throw new", tree.getExpression().getKind(), Tree.Kind.NEW_CLASS);
        Element method = enclosingMethod();
        CHECK.due("rule 6: no throw in a constructor", method != null
                && method.getKind() == ElementKind.METHOD, true);
        return super.visitThrow(tree, nothing);
    }

    @Override
    public Void visitBinary(BinaryTree tree, Void nothing) {
        boolean isJoin = tree.getKind() == Tree.Kind.PLUS && trees.getTypeMirror(getCurrentPath()).toString()
                .equals("java.lang.String");
        CHECK.due("rule 10: texts joined by +", isJoin, false);
        boolean isDivision = tree.getKind() == Tree.Kind.DIVIDE || tree.getKind() == Tree.Kind.REMAINDER;
        CHECK.due("rule 7: a divisor is a constant", isDivision && !isConstantDivisor(tree), false);
        return super.visitBinary(tree, nothing);
    }

    private boolean isConstantDivisor(BinaryTree tree) {
        Element divisor = trees.getElement(new TreePath(getCurrentPath(), tree.getRightOperand()));
        return divisor instanceof VariableElement field && field.getConstantValue() instanceof Integer value && value > 0;
    }

    @Override
    public Void visitVariable(VariableTree tree, Void nothing) {
        String type = String.valueOf(tree.getType()).replace("[]", "");
        Set<String> plain = Set.of("int", "long", "byte", "boolean", "char", "String", "StringBuilder");
        CHECK.due("rule 3: type " + type, plain.contains(type) || trees.getTypeMirror(
                new TreePath(getCurrentPath(), tree.getType())).toString()
                .startsWith("MeetingServer"), true);
        return super.visitVariable(tree, nothing);
    }

    @Override
    public Void visitBlock(BlockTree tree, Void nothing) {
        Tree parent = getCurrentPath().getParentPath().getLeaf();
        CHECK.due("rule 5: a static block", tree.isStatic() && parent instanceof ClassTree, false);
        return super.visitBlock(tree, nothing);
    }

    @Override
    public Void visitTry(TryTree tree, Void nothing) {
        forbidden(tree, "try, which the program does without");
        return super.visitTry(tree, nothing);
    }

    @Override
    public Void visitTypeCast(TypeCastTree tree, Void nothing) {
        String type = tree.getType().toString();
        CHECK.due("rule 7: a cast to " + type, Set.of("byte", "char", "int", "long").contains(type), true);
        return super.visitTypeCast(tree, nothing);
    }

    @Override
    public Void visitLambdaExpression(LambdaExpressionTree tree, Void nothing) {
        forbidden(tree, "a lambda");
        return null;
    }

    @Override
    public Void visitMemberReference(MemberReferenceTree tree, Void nothing) {
        forbidden(tree, "a method reference");
        return null;
    }

    @Override
    public Void visitSynchronized(SynchronizedTree tree, Void nothing) {
        forbidden(tree, "synchronized");
        return null;
    }

    @Override
    public Void visitAssert(AssertTree tree, Void nothing) {
        forbidden(tree, "assert");
        return null;
    }

    @Override
    public Void visitInstanceOf(InstanceOfTree tree, Void nothing) {
        forbidden(tree, "instanceof, which the program does without");
        return null;
    }
}
