import com.sun.source.tree.BinaryTree;
import com.sun.source.tree.CatchTree;
import com.sun.source.tree.ClassTree;
import com.sun.source.tree.CompilationUnitTree;
import com.sun.source.tree.ExpressionTree;
import com.sun.source.tree.ImportTree;
import com.sun.source.tree.LiteralTree;
import com.sun.source.tree.MethodTree;
import com.sun.source.tree.NewClassTree;
import com.sun.source.tree.ThrowTree;
import com.sun.source.tree.Tree;
import com.sun.source.tree.TryTree;
import com.sun.source.tree.VariableTree;
import com.sun.source.util.JavacTask;
import com.sun.source.util.TreeScanner;
import java.io.IOException;
import java.nio.file.Path;
import java.util.HashSet;
import java.util.Set;
import javax.lang.model.element.Modifier;
import javax.tools.JavaCompiler;
import javax.tools.StandardJavaFileManager;
import javax.tools.ToolProvider;

/**
 * Those rules of ../shared/LANGUAGE.md that can be read off the source, each named by its number. It is stricter
 * than they are where the class has no need of what they allow. It is started in the project's folder.
 */
public final class LanguageTest extends TreeScanner<Void, Void> {
    private static final Path SOURCE = Path.of("src", "main", "java", "AllotmentLedger.java");
    private static final Set<String> IMPORTS = Set.of("java.util.ArrayList", "java.util.List", "java.util.Iterator",
            "java.util.Arrays", "java.util.NoSuchElementException");
    private static final Set<String> EXCEPTIONS = Set.of("IllegalStateException", "IllegalArgumentException",
            "IndexOutOfBoundsException", "ArithmeticException", "UnsupportedOperationException",
            "NoSuchElementException", "RuntimeException");
    private static final Set<Tree.Kind> BARRED = Set.of(Tree.Kind.LAMBDA_EXPRESSION, Tree.Kind.MEMBER_REFERENCE,
            Tree.Kind.SYNCHRONIZED, Tree.Kind.ASSERT, Tree.Kind.SWITCH_EXPRESSION, Tree.Kind.UNION_TYPE);
    private static final int MOST_LINES = 60;
    private static final int MOST_PARAMETERS = 7;
    private static final int MOST_CLASSES = 12;
    private static final int MOST_FIELDS = 20;

    private final Set<String> publicMethods = new HashSet<String>();
    private final Set<String> otherMethods = new HashSet<String>();
    private int classes = 0;
    private String at = "";

    public static void main(String[] args) throws IOException {
        JavaCompiler compiler = ToolProvider.getSystemJavaCompiler();
        LanguageTest test = new LanguageTest();
        try (StandardJavaFileManager files = compiler.getStandardFileManager(null, null, null)) {
            JavacTask task = (JavacTask) compiler.getTask(null, files, null, null, null,
                    files.getJavaFileObjects(SOURCE));
            for (CompilationUnitTree unit : task.parse()) {
                due(1, "no package line", unit.getPackage() == null);
                due(1, "one class", unit.getTypeDecls().size() == 1);
                test.scan(unit, null);
            }
        }
        test.dueOfTheWhole();
        Check.end();
    }

    private static void due(int rule, String what, boolean kept) {
        Check.due("LANGUAGE.md, rule " + rule + ": " + what, 1, kept ? 1 : 0);
    }

    private void dueOfTheWhole() {
        due(11, "at most twelve classes", classes > 0 && classes <= MOST_CLASSES);
        for (String name : otherMethods) {
            due(1, name + " bears no name of a public one", !publicMethods.contains(name));
        }
    }

    @Override
    public Void scan(Tree tree, Void none) {
        if (tree != null) {
            due(10, at + " has no " + tree.getKind(), !BARRED.contains(tree.getKind()));
        }
        return super.scan(tree, none);
    }

    @Override
    public Void visitImport(ImportTree tree, Void none) {
        due(4, tree.toString().trim(), !tree.isStatic() && IMPORTS.contains(tree.getQualifiedIdentifier().toString()));
        return null;
    }

    @Override
    public Void visitClass(ClassTree tree, Void none) {
        Set<Modifier> flags = tree.getModifiers().getFlags();
        boolean outer = classes == 0;
        classes++;
        at = tree.getSimpleName().toString();
        due(1, at + " is public only if it is the document's", outer == flags.contains(Modifier.PUBLIC));
        due(2, at + " captures nothing", outer || flags.contains(Modifier.STATIC));
        int fields = 0;
        for (Tree member : tree.getMembers()) {
            due(5, at + " has no initialiser block", member.getKind() != Tree.Kind.BLOCK);
            fields += member instanceof VariableTree field && !isStatic(field) ? 1 : 0;
        }
        due(11, at + " has at most twenty fields", fields <= MOST_FIELDS);
        return super.visitClass(tree, none);
    }

    private static boolean isStatic(VariableTree field) {
        return field.getModifiers().getFlags().contains(Modifier.STATIC);
    }

    @Override
    public Void visitVariable(VariableTree tree, Void none) {
        due(5, tree.getName() + " is final if static",
                !isStatic(tree) || tree.getModifiers().getFlags().contains(Modifier.FINAL));
        return super.visitVariable(tree, none);
    }

    @Override
    public Void visitMethod(MethodTree tree, Void none) {
        at = tree.getName().toString();
        boolean isPublic = tree.getModifiers().getFlags().contains(Modifier.PUBLIC);
        if (tree.getReturnType() != null) {
            (isPublic ? publicMethods : otherMethods).add(at);
        }
        due(11, at + " takes at most seven parameters", tree.getParameters().size() <= MOST_PARAMETERS);
        due(11, at + " is short", tree.toString().split("\n").length <= MOST_LINES);
        due(6, at + ": a constructor throws nothing",
                tree.getReturnType() != null || !tree.toString().contains("throw "));
        due(6, at + " names no equals, hashCode or toString", !Set.of("equals", "hashCode", "toString").contains(at));
        return super.visitMethod(tree, none);
    }

    @Override
    public Void visitThrow(ThrowTree tree, Void none) {
        boolean kept = tree.getExpression() instanceof NewClassTree made
                && EXCEPTIONS.contains(made.getIdentifier().toString())
                && made.getClassBody() == null && isText(made);
        due(6, at + ": " + tree, kept);
        return super.visitThrow(tree, none);
    }

    private static boolean isText(NewClassTree made) {
        for (ExpressionTree argument : made.getArguments()) {
            if (argument.getKind() != Tree.Kind.STRING_LITERAL) {
                return false;
            }
        }
        return made.getArguments().size() <= 1;
    }

    @Override
    public Void visitTry(TryTree tree, Void none) {
        due(6, at + " has no finally and no resources",
                tree.getFinallyBlock() == null && tree.getResources().isEmpty());
        return super.visitTry(tree, none);
    }

    @Override
    public Void visitCatch(CatchTree tree, Void none) {
        due(6, at + " catches what rule 6 names", EXCEPTIONS.contains(tree.getParameter().getType().toString()));
        return super.visitCatch(tree, none);
    }

    @Override
    public Void visitBinary(BinaryTree tree, Void none) {
        boolean text = tree.getLeftOperand().getKind() == Tree.Kind.STRING_LITERAL
                || tree.getRightOperand().getKind() == Tree.Kind.STRING_LITERAL;
        due(10, at + " joins no texts by +", tree.getKind() != Tree.Kind.PLUS || !text);
        due(6, at + " compares no texts by == or !=", tree.getKind() == Tree.Kind.PLUS || !text);
        return super.visitBinary(tree, none);
    }

    @Override
    public Void visitLiteral(LiteralTree tree, Void none) {
        if (tree.getValue() instanceof String text) {
            due(4, at + ": the signs of a text are 1 to 127", text.chars().allMatch(sign -> sign >= 1 && sign <= 127));
        }
        return super.visitLiteral(tree, none);
    }
}
