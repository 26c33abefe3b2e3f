import com.sun.source.tree.AssertTree;
import com.sun.source.tree.BinaryTree;
import com.sun.source.tree.ClassTree;
import com.sun.source.tree.CompilationUnitTree;
import com.sun.source.tree.ExpressionTree;
import com.sun.source.tree.ImportTree;
import com.sun.source.tree.LambdaExpressionTree;
import com.sun.source.tree.LiteralTree;
import com.sun.source.tree.MemberReferenceTree;
import com.sun.source.tree.MethodInvocationTree;
import com.sun.source.tree.MethodTree;
import com.sun.source.tree.NewClassTree;
import com.sun.source.tree.SynchronizedTree;
import com.sun.source.tree.ThrowTree;
import com.sun.source.tree.Tree;
import com.sun.source.tree.TryTree;
import com.sun.source.tree.TypeCastTree;
import com.sun.source.tree.VariableTree;
import com.sun.source.util.TreePath;
import com.sun.source.util.TreePathScanner;
import com.sun.source.util.Trees;
import java.util.HashSet;
import java.util.LinkedHashMap;
import java.util.LinkedHashSet;
import java.util.Map;
import java.util.Set;
import javax.lang.model.element.Element;
import javax.lang.model.element.ElementKind;
import javax.lang.model.element.Modifier;
import javax.lang.model.type.TypeMirror;

/**
 * Rules of ../shared/LANGUAGE.md, by their numbers, for a class that needs less than they leave:
 * no list, no text but those of exceptions, no try, and no cast but one between numbers.
 */
final class LanguageRules extends TreePathScanner<Void, Void> {
    private static final int MOST_CLASSES = 12;
    private static final int MOST_FIELDS = 20;
    private static final int MOST_PARAMETERS = 7;
    private static final int MOST_LINES = 60;
    private static final int MOST_CALLS_DEEP = 8;

    private static final Set<String> NUMBERS = Set.of(
            "int", "long", "short", "byte", "char", "boolean", "double", "float");
    private static final Set<String> LIBRARY = Set.of("java.lang.Math.min", "java.lang.Math.max");
    private static final Set<String> EXCEPTIONS = Set.of(
            "IllegalStateException", "IllegalArgumentException", "IndexOutOfBoundsException",
            "ArithmeticException", "UnsupportedOperationException", "NoSuchElementException",
            "RuntimeException");
    private static final Set<String> NOT_OF_ONES_OWN = Set.of("equals", "hashCode", "toString");

    private final Trees trees;
    private final CompilationUnitTree source;
    private final Map<Element, Set<Element>> callsOf = new LinkedHashMap<>();
    private Element method = null;
    private int classes = 0;

    LanguageRules(Trees trees, CompilationUnitTree source) {
        this.trees = trees;
        this.source = source;
    }

    private void rule(int number, Tree at, String what, boolean holds) {
        Check.due("rule " + number + ", line " + firstLine(at) + ": " + what, holds, true);
    }

    private long firstLine(Tree tree) {
        return lineAt(trees.getSourcePositions().getStartPosition(source, tree));
    }

    private long lastLine(Tree tree) {
        return lineAt(trees.getSourcePositions().getEndPosition(source, tree));
    }

    /** 0 for what has no place in the source, such as the compiler's own constructors. */
    private long lineAt(long position) {
        return position < 0 ? 0 : source.getLineMap().getLineNumber(position);
    }

    private Element element() {
        return trees.getElement(getCurrentPath());
    }

    private TypeMirror type(Tree tree) {
        return trees.getTypeMirror(new TreePath(getCurrentPath(), tree));
    }

    /** What the calls are together, once all of them have been seen. */
    void ofTheWhole() {
        rule(2, source, "no package", source.getPackageName() == null);
        rule(11, source, classes + " classes", classes > 0 && classes <= MOST_CLASSES);
        for (Element caller : callsOf.keySet()) {
            int deep = deep(caller, new HashSet<>());
            rule(11, source, caller + " is " + deep + " calls deep", deep <= MOST_CALLS_DEEP);
        }
    }

    /** The longest chain of calls from here; a method that calls itself counts once. */
    private int deep(Element caller, Set<Element> open) {
        open.add(caller);
        int deepest = 0;
        for (Element called : callsOf.getOrDefault(caller, Set.of())) {
            boolean isOpen = open.contains(called);
            if (isOpen && called != caller) {
                rule(8, source, "no ring of methods through " + called, false);
            }
            deepest = Math.max(deepest, isOpen ? 0 : deep(called, open));
        }
        open.remove(caller);
        return deepest + 1;
    }

    @Override
    public Void visitImport(ImportTree tree, Void nothing) {
        String name = tree.getQualifiedIdentifier().toString();
        rule(4, tree, "import " + name, name.equals("java.util.NoSuchElementException"));
        return super.visitImport(tree, nothing);
    }

    @Override
    public Void visitClass(ClassTree tree, Void nothing) {
        classes++;
        Set<Modifier> modifiers = tree.getModifiers().getFlags();
        boolean isInside = element().getEnclosingElement().getKind() == ElementKind.CLASS;
        boolean isOpen = !isInside && modifiers.contains(Modifier.PUBLIC);
        rule(1, tree, "the one public class", classes == 1 ? isOpen : isInside);
        rule(1, tree, "static inside", isOpen || modifiers.contains(Modifier.STATIC));
        long fields = tree.getMembers().stream()
                .filter(member -> member instanceof VariableTree field
                        && !field.getModifiers().getFlags().contains(Modifier.STATIC))
                .count();
        rule(11, tree, fields + " fields", fields <= MOST_FIELDS);
        boolean hasInitialiser = tree.getMembers().stream()
                .anyMatch(member -> member.getKind() == Tree.Kind.BLOCK);
        rule(5, tree, "no initialiser block", !hasInitialiser);
        return super.visitClass(tree, nothing);
    }

    @Override
    public Void visitMethod(MethodTree tree, Void nothing) {
        method = element();
        callsOf.put(method, new LinkedHashSet<>());
        int parameters = tree.getParameters().size();
        rule(11, tree, parameters + " parameters", parameters <= MOST_PARAMETERS);
        long lines = lastLine(tree) - firstLine(tree) + 1;
        rule(11, tree, lines + " lines", lines <= MOST_LINES);
        rule(6, tree, tree.getName() + " is no method of every object",
                !NOT_OF_ONES_OWN.contains(tree.getName().toString()));
        rule(6, tree, "not synchronized",
                !tree.getModifiers().getFlags().contains(Modifier.SYNCHRONIZED));
        super.visitMethod(tree, nothing);
        method = null;
        return null;
    }

    @Override
    public Void visitVariable(VariableTree tree, Void nothing) {
        String type = element().asType().toString();
        String part = type.replace("[]", "");
        boolean isOwn = part.startsWith("SapNetwork.");
        rule(3, tree, "the type " + type, NUMBERS.contains(part) || isOwn);
        rule(3, tree, "one dimension, or two of numbers",
                type.equals(part) || type.equals(part + "[]")
                        || type.equals(part + "[][]") && !isOwn);
        Set<Modifier> modifiers = tree.getModifiers().getFlags();
        rule(5, tree, "a static field is a constant", !modifiers.contains(Modifier.STATIC)
                || modifiers.contains(Modifier.FINAL) && type.equals(part) && !isOwn);
        return super.visitVariable(tree, nothing);
    }

    @Override
    public Void visitMethodInvocation(MethodInvocationTree tree, Void nothing) {
        Element called = element();
        // A constructor's call of the one above it is the compiler's own.
        if (called.getKind() != ElementKind.CONSTRUCTOR) {
            String owner = called.getEnclosingElement().toString();
            boolean isOwn = owner.equals("SapNetwork") || owner.startsWith("SapNetwork.");
            String name = owner + "." + called.getSimpleName();
            rule(4, tree, "the call of " + name, isOwn || LIBRARY.contains(name));
            rule(12, tree, "no call in a constructor",
                    method != null && method.getKind() == ElementKind.METHOD);
            if (isOwn && method != null) {
                callsOf.get(method).add(called);
            }
            rule(8, tree, "only a private static method calls itself", called != method
                    || method.getModifiers().containsAll(Set.of(Modifier.PRIVATE, Modifier.STATIC)));
        }
        return super.visitMethodInvocation(tree, nothing);
    }

    @Override
    public Void visitNewClass(NewClassTree tree, Void nothing) {
        String name = tree.getIdentifier().toString();
        boolean isThrown = getCurrentPath().getParentPath().getLeaf() instanceof ThrowTree;
        boolean isOwn = element().getEnclosingElement().toString().startsWith("SapNetwork.");
        rule(4, tree, "new " + name, isOwn || isThrown && EXCEPTIONS.contains(name));
        rule(2, tree, "no anonymous class", tree.getClassBody() == null);
        return super.visitNewClass(tree, nothing);
    }

    @Override
    public Void visitThrow(ThrowTree tree, Void nothing) {
        ExpressionTree thrown = tree.getExpression();
        boolean isWritten = thrown instanceof NewClassTree made
                && (made.getArguments().isEmpty()
                        || made.getArguments().size() == 1
                                && made.getArguments().get(0).getKind()
                                        == Tree.Kind.STRING_LITERAL);
        rule(6, tree, "throw new with a written text", isWritten);
        rule(6, tree, "no throw in a constructor",
                method != null && method.getKind() == ElementKind.METHOD);
        return super.visitThrow(tree, nothing);
    }

    @Override
    public Void visitBinary(BinaryTree tree, Void nothing) {
        boolean areValues = !type(tree.getLeftOperand()).toString().equals("java.lang.String")
                && !type(tree.getRightOperand()).toString().equals("java.lang.String");
        rule(10, tree, "no texts joined or compared", areValues);
        return super.visitBinary(tree, nothing);
    }

    @Override
    public Void visitLiteral(LiteralTree tree, Void nothing) {
        if (tree.getValue() instanceof String || tree.getValue() instanceof Character) {
            boolean isPlain = tree.getValue().toString().chars().allMatch(c -> c > 0 && c < 128);
            rule(4, tree, "the text " + tree, isPlain);
        }
        return super.visitLiteral(tree, nothing);
    }

    @Override
    public Void visitTypeCast(TypeCastTree tree, Void nothing) {
        rule(6, tree, "a cast between numbers", NUMBERS.contains(tree.getType().toString()));
        return super.visitTypeCast(tree, nothing);
    }

    @Override
    public Void visitTry(TryTree tree, Void nothing) {
        rule(6, tree, "no try", false);
        return super.visitTry(tree, nothing);
    }

    @Override
    public Void visitSynchronized(SynchronizedTree tree, Void nothing) {
        rule(6, tree, "no synchronized", false);
        return super.visitSynchronized(tree, nothing);
    }

    @Override
    public Void visitAssert(AssertTree tree, Void nothing) {
        rule(6, tree, "no assert", false);
        return super.visitAssert(tree, nothing);
    }

    @Override
    public Void visitLambdaExpression(LambdaExpressionTree tree, Void nothing) {
        rule(2, tree, "no lambda", false);
        return super.visitLambdaExpression(tree, nothing);
    }

    @Override
    public Void visitMemberReference(MemberReferenceTree tree, Void nothing) {
        rule(2, tree, "no method reference", false);
        return super.visitMemberReference(tree, nothing);
    }
}
