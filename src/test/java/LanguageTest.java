import com.sun.source.tree.AssertTree;
import com.sun.source.tree.BinaryTree;
import com.sun.source.tree.BlockTree;
import com.sun.source.tree.ClassTree;
import com.sun.source.tree.CompilationUnitTree;
import com.sun.source.tree.IdentifierTree;
import com.sun.source.tree.ImportTree;
import com.sun.source.tree.LambdaExpressionTree;
import com.sun.source.tree.MemberReferenceTree;
import com.sun.source.tree.MemberSelectTree;
import com.sun.source.tree.MethodTree;
import com.sun.source.tree.SynchronizedTree;
import com.sun.source.tree.ThrowTree;
import com.sun.source.tree.Tree;
import com.sun.source.tree.TryTree;
import com.sun.source.tree.VariableTree;
import com.sun.source.util.JavacTask;
import com.sun.source.util.SourcePositions;
import com.sun.source.util.TreeScanner;
import com.sun.source.util.Trees;
import java.io.File;
import java.io.IOException;
import java.util.List;
import java.util.Set;
import java.util.regex.Pattern;
import javax.lang.model.element.Modifier;
import javax.tools.JavaCompiler;
import javax.tools.StandardJavaFileManager;
import javax.tools.ToolProvider;

/** The rules of LANGUAGE.md, as far as the source of the program shows them. */
public final class LanguageTest extends TreeScanner<Void, Void> {
    private static final int MOST_LINES = 60;
    private static final int MOST_PARAMETERS = 7;
    private static final int MOST_CLASSES = 12;
    private static final int MOST_FIELDS = 20;
    private static final Set<String> FACE = Set.of("make", "put", "ground", "turn", "breakUp", "append", "clear",
        "fault", "load", "sign", "crate", "letter", "seen", "whyNot", "effort", "alike", "nest", "count", "full",
        "ifTurned", "bestTurn", "undo", "save", "restore");
    private static final Set<String> LIBRARY = Set.of("System.arraycopy", "Arrays.copyOf", "Arrays.copyOfRange",
        "Arrays.fill", "List.of");
    private static final Pattern NUMBERS = Pattern.compile("(Math|Integer|Long)\\.(?!random$)\\w+(?<!Exact)");
    private static final Set<String> CLOSED = Set.of("Math", "System", "Integer", "Long", "Arrays", "List", "Thread",
        "Object", "Class", "Runtime", "Double", "Float", "Character", "Objects", "Collections", "String");
    private static final Set<String> IMPORTS = Set.of("java.util.ArrayList", "java.util.List", "java.util.Arrays",
        "java.util.Iterator", "java.util.NoSuchElementException");
    private static final Set<String> EXCEPTIONS = Set.of("IllegalStateException", "IllegalArgumentException",
        "IndexOutOfBoundsException", "ArithmeticException", "UnsupportedOperationException",
        "NoSuchElementException", "RuntimeException");

    private final SourcePositions positions;
    private final CompilationUnitTree unit;
    private int classes = 0;
    private boolean inConstructor = false;
    private boolean inImport = false;

    private LanguageTest(SourcePositions positions, CompilationUnitTree unit) {
        this.positions = positions;
        this.unit = unit;
    }

    public static void main(String[] args) throws IOException {
        JavaCompiler compiler = ToolProvider.getSystemJavaCompiler();
        StandardJavaFileManager files = compiler.getStandardFileManager(null, null, null);
        JavacTask task = (JavacTask) compiler.getTask(null, files, null, List.of("-proc:none"), null,
            files.getJavaFileObjects(new File(args[0])));
        for (CompilationUnitTree unit : task.parse()) {
            LanguageTest test = new LanguageTest(Trees.instance(task).getSourcePositions(), unit);
            Due.due("package lines", unit.getPackageName() == null ? 0 : 1, 0);
            Due.due("classes of the file", unit.getTypeDecls().size(), 1);
            test.scan(unit, null);
            Due.due("too many classes", Math.max(test.classes, MOST_CLASSES), MOST_CLASSES);
        }
        Due.end("LanguageTest");
    }

    private long lineOf(long position) {
        return unit.getLineMap().getLineNumber(position);
    }

    private long lineOf(Tree tree) {
        return lineOf(positions.getStartPosition(unit, tree));
    }

    private void refuse(Tree tree, String what) {
        Due.tell("line " + lineOf(tree) + ": " + what);
    }

    @Override
    public Void visitClass(ClassTree tree, Void none) {
        classes++;
        int fields = 0;
        for (Tree member : tree.getMembers()) {
            if (member instanceof VariableTree) {
                VariableTree field = (VariableTree) member;
                boolean isStatic = field.getModifiers().getFlags().contains(Modifier.STATIC);
                fields += isStatic ? 0 : 1;
                if (isStatic && !field.getModifiers().getFlags().contains(Modifier.FINAL)) {
                    refuse(field, "static state");
                }
            }
            if (member instanceof BlockTree && ((BlockTree) member).isStatic()) {
                refuse(member, "a static initialiser block");
            }
        }
        Due.due("too many fields in " + tree.getSimpleName(), Math.max(fields, MOST_FIELDS), MOST_FIELDS);
        Set<Modifier> flags = tree.getModifiers().getFlags();
        if (classes > 1 && (flags.contains(Modifier.PUBLIC) || flags.contains(Modifier.PROTECTED))) {
            refuse(tree, "a class inside that shows itself");
        }
        return super.visitClass(tree, none);
    }

    @Override
    public Void visitMethod(MethodTree tree, Void none) {
        String name = tree.getName().toString();
        long last = positions.getEndPosition(unit, tree);
        long lines = lineOf(last) - lineOf(tree) + 1;
        Due.due("too many lines in " + name, Math.max(lines, MOST_LINES), MOST_LINES);
        Due.due("too many parameters of " + name,
            Math.max(tree.getParameters().size(), MOST_PARAMETERS), MOST_PARAMETERS);
        Set<Modifier> flags = tree.getModifiers().getFlags();
        if (flags.contains(Modifier.PRIVATE) && FACE.contains(name)) {
            refuse(tree, "a private method bears the name of a public one");
        }
        inConstructor = name.equals("<init>");
        super.visitMethod(tree, none);
        inConstructor = false;
        return null;
    }

    @Override
    public Void visitMemberSelect(MemberSelectTree tree, Void none) {
        String text = tree.toString();
        boolean listed = LIBRARY.contains(text) || NUMBERS.matcher(text).matches();
        if (CLOSED.contains(tree.getExpression().toString()) && !listed) {
            refuse(tree, "a call outside the library: " + text);
        }
        if (text.startsWith("java.") && !inImport) {
            refuse(tree, "a name outside the library: " + text);
        }
        return super.visitMemberSelect(tree, none);
    }

    @Override
    public Void visitImport(ImportTree tree, Void none) {
        if (!IMPORTS.contains(tree.getQualifiedIdentifier().toString())) {
            refuse(tree, "an import outside the library");
        }
        inImport = true;
        super.visitImport(tree, none);
        inImport = false;
        return null;
    }

    @Override
    public Void visitIdentifier(IdentifierTree tree, Void none) {
        String name = tree.getName().toString();
        boolean thrown = name.endsWith("Exception") || name.endsWith("Error") || name.equals("Throwable");
        if (thrown && !EXCEPTIONS.contains(name)) {
            refuse(tree, "an exception that is not listed: " + name);
        }
        return super.visitIdentifier(tree, none);
    }

    @Override
    public Void visitBinary(BinaryTree tree, Void none) {
        boolean text = tree.getLeftOperand().getKind() == Tree.Kind.STRING_LITERAL
            || tree.getRightOperand().getKind() == Tree.Kind.STRING_LITERAL;
        if (text) {
            refuse(tree, "a text that is joined or compared by a sign");
        }
        return super.visitBinary(tree, none);
    }

    @Override
    public Void visitLambdaExpression(LambdaExpressionTree tree, Void none) {
        refuse(tree, "a lambda");
        return null;
    }

    @Override
    public Void visitMemberReference(MemberReferenceTree tree, Void none) {
        refuse(tree, "a method reference");
        return null;
    }

    @Override
    public Void visitTry(TryTree tree, Void none) {
        if (tree.getFinallyBlock() != null || !tree.getResources().isEmpty()) {
            refuse(tree, "a finally, or a try with resources");
        }
        return super.visitTry(tree, none);
    }

    @Override
    public Void visitThrow(ThrowTree tree, Void none) {
        if (inConstructor || tree.getExpression().getKind() != Tree.Kind.NEW_CLASS) {
            refuse(tree, "a throw in a constructor, or of what is not new");
        }
        return super.visitThrow(tree, none);
    }

    @Override
    public Void visitAssert(AssertTree tree, Void none) {
        refuse(tree, "an assert");
        return null;
    }

    @Override
    public Void visitSynchronized(SynchronizedTree tree, Void none) {
        refuse(tree, "a synchronized");
        return null;
    }
}
