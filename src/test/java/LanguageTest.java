import com.sun.source.tree.AssertTree;
import com.sun.source.tree.BinaryTree;
import com.sun.source.tree.CatchTree;
import com.sun.source.tree.ClassTree;
import com.sun.source.tree.CompilationUnitTree;
import com.sun.source.tree.IdentifierTree;
import com.sun.source.tree.ImportTree;
import com.sun.source.tree.LambdaExpressionTree;
import com.sun.source.tree.LiteralTree;
import com.sun.source.tree.MemberReferenceTree;
import com.sun.source.tree.MemberSelectTree;
import com.sun.source.tree.MethodTree;
import com.sun.source.tree.NewArrayTree;
import com.sun.source.tree.NewClassTree;
import com.sun.source.tree.SynchronizedTree;
import com.sun.source.tree.ThrowTree;
import com.sun.source.tree.Tree;
import com.sun.source.tree.TryTree;
import com.sun.source.tree.VariableTree;
import com.sun.source.util.JavacTask;
import com.sun.source.util.SourcePositions;
import com.sun.source.util.TreeScanner;
import com.sun.source.util.Trees;
import java.io.File;
import java.io.IOException;
import java.util.List;
import java.util.Set;
import javax.lang.model.element.Modifier;
import javax.tools.JavaCompiler;
import javax.tools.StandardJavaFileManager;
import javax.tools.ToolProvider;

/** The rules of LANGUAGE.md, as far as the source of the program shows them. */
public final class LanguageTest extends TreeScanner<Void, Void> {
    private static final int MOST_LINES = 60;
    private static final int MOST_PARAMETERS = 7;
    private static final int MOST_CLASSES = 12;
    private static final int MOST_FIELDS = 20;
    private static final Set<String> FACE = Set.of("make", "put", "ground", "turn", "breakUp", "append", "clear",
        "fault", "load", "sign", "crate", "letter", "seen", "whyNot", "effort", "alike", "nest", "count", "full",
        "ifTurned", "bestTurn", "undo", "save", "restore");
    private static final Set<String> LIBRARY = Set.of("Math.max", "Math.min", "System.arraycopy");
    private static final Set<String> LIBRARY_CLASSES = Set.of("Math", "System", "Integer", "Long", "Arrays", "String",
        "StringBuilder", "List", "ArrayList", "Thread", "Object", "Class", "Runtime", "Double");

    private final SourcePositions positions;
    private final CompilationUnitTree unit;
    private int classes = 0;
    private boolean inConstructor = false;
    private boolean inMethod = false;

    private LanguageTest(SourcePositions positions, CompilationUnitTree unit) {
        this.positions = positions;
        this.unit = unit;
    }

    public static void main(String[] args) throws IOException {
        JavaCompiler compiler = ToolProvider.getSystemJavaCompiler();
        StandardJavaFileManager files = compiler.getStandardFileManager(null, null, null);
        JavacTask task = (JavacTask) compiler.getTask(null, files, null, List.of("-proc:none"), null,
            files.getJavaFileObjects(new File(args[0])));
        for (CompilationUnitTree unit : task.parse()) {
            LanguageTest test = new LanguageTest(Trees.instance(task).getSourcePositions(), unit);
            Due.due("package lines", unit.getPackageName() == null ? 0 : 1, 0);
            Due.due("classes of the file", unit.getTypeDecls().size(), 1);
            test.scan(unit, null);
            Due.due("too many classes", Math.max(test.classes, MOST_CLASSES), MOST_CLASSES);
        }
        Due.end("LanguageTest");
    }

    private long lineOf(long position) {
        return unit.getLineMap().getLineNumber(position);
    }

    private long lineOf(Tree tree) {
        return lineOf(positions.getStartPosition(unit, tree));
    }

    private void refuse(Tree tree, String what) {
        Due.tell("line " + lineOf(tree) + ": " + what);
    }

    @Override
    public Void visitClass(ClassTree tree, Void none) {
        classes++;
        int fields = 0;
        for (Tree member : tree.getMembers()) {
            if (member instanceof VariableTree) {
                VariableTree field = (VariableTree) member;
                boolean isStatic = field.getModifiers().getFlags().contains(Modifier.STATIC);
                fields += isStatic ? 0 : 1;
                if (isStatic && !field.getModifiers().getFlags().contains(Modifier.FINAL)) {
                    refuse(field, "static state");
                }
            }
            if (member.getKind() == Tree.Kind.BLOCK) {
                refuse(member, "an initialiser block");
            }
        }
        Due.due("too many fields in " + tree.getSimpleName(), Math.max(fields, MOST_FIELDS), MOST_FIELDS);
        if (classes > 1 && !tree.getModifiers().getFlags().contains(Modifier.STATIC)) {
            refuse(tree, "a class inside that is not static");
        }
        return super.visitClass(tree, none);
    }

    @Override
    public Void visitMethod(MethodTree tree, Void none) {
        String name = tree.getName().toString();
        long last = positions.getEndPosition(unit, tree);
        long lines = lineOf(last) - lineOf(tree) + 1;
        Due.due("too many lines in " + name, Math.max(lines, MOST_LINES), MOST_LINES);
        Due.due("too many parameters of " + name,
            Math.max(tree.getParameters().size(), MOST_PARAMETERS), MOST_PARAMETERS);
        boolean isPublic = tree.getModifiers().getFlags().contains(Modifier.PUBLIC);
        if (!isPublic && FACE.contains(name)) {
            refuse(tree, "a method inside bears the name of a public one");
        }
        inMethod = true;
        inConstructor = name.equals("<init>");
        super.visitMethod(tree, none);
        inMethod = false;
        inConstructor = false;
        return null;
    }

    @Override
    public Void visitNewClass(NewClassTree tree, Void none) {
        refuseMaking(tree);
        return super.visitNewClass(tree, none);
    }

    @Override
    public Void visitNewArray(NewArrayTree tree, Void none) {
        refuseMaking(tree);
        return super.visitNewArray(tree, none);
    }

    /** All calls of a run share one room, so calls use the rows that the constructors made. */
    private void refuseMaking(Tree tree) {
        if (inMethod && !inConstructor) {
            refuse(tree, "a call makes an object");
        }
    }

    @Override
    public Void visitMemberSelect(MemberSelectTree tree, Void none) {
        String text = tree.toString();
        String owner = tree.getExpression().toString();
        if (LIBRARY_CLASSES.contains(owner) && !LIBRARY.contains(text)) {
            refuse(tree, "a call outside the library: " + text);
        }
        if (owner.startsWith("java")) {
            refuse(tree, "a name outside the library: " + text);
        }
        return super.visitMemberSelect(tree, none);
    }

    @Override
    public Void visitIdentifier(IdentifierTree tree, Void none) {
        if (tree.getName().toString().endsWith("Exception") || tree.getName().contentEquals("Error")) {
            refuse(tree, "an exception");
        }
        return super.visitIdentifier(tree, none);
    }

    @Override
    public Void visitLiteral(LiteralTree tree, Void none) {
        if (tree.getKind() == Tree.Kind.STRING_LITERAL) {
            refuse(tree, "a text, for which this program has no use");
        }
        return super.visitLiteral(tree, none);
    }

    @Override
    public Void visitBinary(BinaryTree tree, Void none) {
        if (tree.getKind() == Tree.Kind.DIVIDE || tree.getKind() == Tree.Kind.REMAINDER) {
            String divisor = tree.getRightOperand().toString();
            if (!divisor.matches("LABEL_BASE|10|rooms")) {
                refuse(tree, "a divisor that nobody looked at: " + divisor);
            }
        }
        return super.visitBinary(tree, none);
    }

    @Override
    public Void visitImport(ImportTree tree, Void none) {
        refuse(tree, "an import");
        return null;
    }

    @Override
    public Void visitLambdaExpression(LambdaExpressionTree tree, Void none) {
        refuse(tree, "a lambda");
        return null;
    }

    @Override
    public Void visitMemberReference(MemberReferenceTree tree, Void none) {
        refuse(tree, "a method reference");
        return null;
    }

    @Override
    public Void visitTry(TryTree tree, Void none) {
        refuse(tree, "a try");
        return null;
    }

    @Override
    public Void visitCatch(CatchTree tree, Void none) {
        refuse(tree, "a catch");
        return null;
    }

    @Override
    public Void visitThrow(ThrowTree tree, Void none) {
        refuse(tree, "a throw, which the document asks for nowhere");
        return null;
    }

    @Override
    public Void visitAssert(AssertTree tree, Void none) {
        refuse(tree, "an assert");
        return null;
    }

    @Override
    public Void visitSynchronized(SynchronizedTree tree, Void none) {
        refuse(tree, "a synchronized");
        return null;
    }
}
