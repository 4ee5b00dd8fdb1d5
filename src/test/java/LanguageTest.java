import com.sun.source.tree.ArrayAccessTree;
import com.sun.source.tree.BinaryTree;
import com.sun.source.tree.BlockTree;
import com.sun.source.tree.ClassTree;
import com.sun.source.tree.CompoundAssignmentTree;
import com.sun.source.tree.ConditionalExpressionTree;
import com.sun.source.tree.DoWhileLoopTree;
import com.sun.source.tree.ExpressionTree;
import com.sun.source.tree.ForLoopTree;
import com.sun.source.tree.IfTree;
import com.sun.source.tree.ImportTree;
import com.sun.source.tree.LambdaExpressionTree;
import com.sun.source.tree.MemberReferenceTree;
import com.sun.source.tree.MemberSelectTree;
import com.sun.source.tree.MethodInvocationTree;
import com.sun.source.tree.MethodTree;
import com.sun.source.tree.NewClassTree;
import com.sun.source.tree.Tree;
import com.sun.source.tree.VariableTree;
import com.sun.source.tree.WhileLoopTree;
import com.sun.source.util.TreePath;
import java.util.ArrayDeque;
import java.util.Deque;
import java.util.HashMap;
import java.util.HashSet;
import java.util.Map;
import java.util.Set;
import java.util.regex.Pattern;
import javax.lang.model.element.Element;
import javax.lang.model.element.Modifier;
import javax.lang.model.element.TypeElement;
import javax.lang.model.type.TypeKind;

/**
 * The rules of ../shared/LANGUAGE.md, as far as they can be told from the source. Where the class uses less than a rule
 * leaves (no text, no double, nothing made in a call), the test asks for that.
 */
final class LanguageTest {
    private static final Set<String> TYPES =
            Set.of("int", "long", "short", "byte", "char", "boolean", "int[]", "long[]", "void");
    private static final Set<String> LIBRARY = Set.of("java.lang.Object.<init>", "java.lang.Math.abs",
            "java.lang.Math.max", "java.lang.Math.min", "java.lang.Long.bitCount", "java.lang.System.arraycopy",
            "java.util.Arrays.fill");
    private static final int DEEPEST = 8;

    private static Source source;
    private static Map<Element, Set<Element>> calls;

    public static void main(String[] args) throws Exception {
        source = new Source();
        calls = calls();
        Cases.run(LanguageTest.class);
    }

    private static void isTrue(String what, boolean is) {
        Due.due(what + ": that it is so", is ? 1 : 0, 1);
    }

    /** There is no such tree. */
    private static void none(String what, Iterable<TreePath> paths) {
        for (TreePath path : paths) {
            Due.due(what + " in line " + source.line(path) + ", so that it", 1, 0);
        }
        isTrue("looked for " + what, true);
    }

    private static String at(TreePath path) {
        return "line " + source.line(path) + ", " + path.getLeaf().toString().lines().findFirst().orElse("");
    }

    private static boolean isStatic(Tree tree) {
        return ((VariableTree) tree).getModifiers().getFlags().contains(Modifier.STATIC);
    }

    // 2. "static nested classes .. No inner class that isn't static, no local or anonymous class, no lambda, no
    // method reference."
    static void r02_classesStandInsideAndAreStatic() {
        none("a lambda", source.all(LambdaExpressionTree.class));
        none("a method reference", source.all(MemberReferenceTree.class));
        for (TreePath path : source.all(ClassTree.class)) {
            boolean isOuter = path.getParentPath().getLeaf() == source.unit();
            isTrue(at(path), isOuter || path.getParentPath().getLeaf() instanceof ClassTree
                    && source.element(path).getModifiers().contains(Modifier.STATIC));
        }
    }

    // 3. "Types: int, long, .. arrays of these .. your own classes"; a double would need looks at NaN.
    static void r03_typesAreNumbersRowsAndOwnClasses() {
        for (TreePath path : source.all(VariableTree.class)) {
            isOfTheTypes(at(path), source.element(path).asType().toString());
        }
        for (TreePath path : source.all(MethodTree.class)) {
            Tree answer = ((MethodTree) path.getLeaf()).getReturnType();
            isOfTheTypes(at(path), answer == null ? "void" : source.type(new TreePath(path, answer)).toString());
        }
    }

    private static void isOfTheTypes(String what, String type) {
        isTrue(what + " of " + type, TYPES.contains(type) || type.matches("GlassJar\\.[A-Z][a-zA-Z]*"));
    }

    // 4. "The library: only what stands here."
    static void r04_onlyTheListsCallsOfTheLibrary() {
        for (TreePath path : source.all(ImportTree.class)) {
            Due.due(at(path), path.getLeaf().toString().trim().equals("import java.util.Arrays;") ? 1 : 0, 1);
        }
        for (TreePath path : source.all(MethodInvocationTree.class, NewClassTree.class)) {
            isTrue(at(path), isCloneOfARow(path) || isOfTheClassOrTheList(source.target(path)));
        }
    }

    private static boolean isOfTheClassOrTheList(Element target) {
        String owner = ((TypeElement) target.getEnclosingElement()).getQualifiedName().toString();
        return owner.startsWith("GlassJar") || LIBRARY.contains(owner + "." + target.getSimpleName());
    }

    private static boolean isCloneOfARow(TreePath call) {
        if (!(call.getLeaf() instanceof MethodInvocationTree)) {
            return false;
        }
        Tree select = ((MethodInvocationTree) call.getLeaf()).getMethodSelect();
        if (!(select instanceof MemberSelectTree)) {
            return false;
        }
        MemberSelectTree member = (MemberSelectTree) select;
        return member.getIdentifier().contentEquals("clone")
                && source.type(new TreePath(call, member.getExpression())).getKind() == TypeKind.ARRAY;
    }

    // 5. "Static fields are final: .. written out in their initialiser and never changed. .. no static initialiser
    // block."
    static void r05_staticFieldsAreFinalAndWrittenOut() {
        for (TreePath path : source.all(VariableTree.class)) {
            if (Source.isField(path) && isStatic(path.getLeaf())) {
                VariableTree field = (VariableTree) path.getLeaf();
                isTrue(at(path), field.getModifiers().getFlags().contains(Modifier.FINAL));
                isTrue(at(path), field.getInitializer() != null);
            }
        }
        for (TreePath path : source.all(BlockTree.class)) {
            isTrue(at(path), !(path.getParentPath().getLeaf() instanceof ClassTree));
        }
    }

    // 6. "No throw, try, catch, synchronized, assert, switch with patterns .. No equals, hashCode or toString"
    static void r06_noFormsThatAreForbidden() {
        none("a form that is forbidden", source.all(Tree.Kind.THROW, Tree.Kind.TRY, Tree.Kind.CATCH,
                Tree.Kind.SYNCHRONIZED, Tree.Kind.ASSERT));
        for (TreePath path : source.all(MethodTree.class)) {
            String name = ((MethodTree) path.getLeaf()).getName().toString();
            isTrue(at(path), !Set.of("equals", "hashCode", "toString").contains(name));
        }
        for (TreePath path : source.all(Tree.Kind.TYPE_CAST)) {
            isTrue(at(path), source.type(path).getKind().isPrimitive());
        }
    }

    // 7. "an index is looked at before it is used, a divisor before it divides, a reference against null"
    static void r07_eachIndexIsLookedAt() {
        for (TreePath path : source.all(ArrayAccessTree.class)) {
            ArrayAccessTree access = (ArrayAccessTree) path.getLeaf();
            String bound = access.getIndex() + " (<|>=) " + access.getExpression() + "\\.length\\b";
            String ground = access.getIndex() + " (>=|<) 0\\b|int " + access.getIndex() + " = \\w+ \\+ 1\\b";
            isTrue(at(path) + " below the length", conditionsOf(path).find(bound));
            isTrue(at(path) + " not below 0", conditionsOf(path).find(ground));
        }
    }

    static void r07_eachDivisorIsLookedAt() {
        for (TreePath path : source.all(Tree.Kind.DIVIDE, Tree.Kind.REMAINDER)) {
            ExpressionTree divisor = ((BinaryTree) path.getLeaf()).getRightOperand();
            boolean isConstant = divisor.toString().matches("[1-9][0-9]*L?|DAYS");
            isTrue(at(path), isConstant || conditionsOf(path).find("\\b" + divisor + " (== 0|!= 0|< 1)"));
        }
        none("a division in its place", source.all(Tree.Kind.DIVIDE_ASSIGNMENT, Tree.Kind.REMAINDER_ASSIGNMENT));
    }

    static void r07_noReferenceIsNull() {
        none("null", source.all(Tree.Kind.NULL_LITERAL));
    }

    /** The conditions of the method around it, where an index or a divisor can have been looked at. */
    private static Conditions conditionsOf(TreePath path) {
        Conditions conditions = new Conditions();
        for (TreePath other : source.all(IfTree.class, ConditionalExpressionTree.class, ForLoopTree.class,
                WhileLoopTree.class)) {
            if (Source.method(other) != null && Source.method(other).getLeaf() == Source.method(path).getLeaf()) {
                conditions.add(other.getLeaf());
            }
        }
        return conditions;
    }

    /** The texts of conditions, and of the variables that a for loop begins with. */
    private static final class Conditions {
        private final StringBuilder text = new StringBuilder();

        private void add(Tree tree) {
            if (tree instanceof IfTree) {
                text.append(((IfTree) tree).getCondition()).append('\n');
            } else if (tree instanceof ConditionalExpressionTree) {
                text.append(((ConditionalExpressionTree) tree).getCondition()).append('\n');
            } else if (tree instanceof WhileLoopTree) {
                text.append(((WhileLoopTree) tree).getCondition()).append('\n');
            } else if (tree instanceof ForLoopTree) {
                text.append(((ForLoopTree) tree).getInitializer()).append('\n');
                text.append(((ForLoopTree) tree).getCondition()).append('\n');
            }
        }

        private boolean find(String form) {
            return Pattern.compile(form).matcher(text).find();
        }
    }

    // 8. "Recursion: .. a guard on the depth": there is none. 11. "calls that are no recursion go at most eight deep"
    static void r08_noMethodCallsItselfByAnyWay() {
        for (Element method : calls.keySet()) {
            isTrue(method + " ends", deepest(method, new ArrayDeque<>()) < Integer.MAX_VALUE / 2);
        }
    }

    static void r11_callsGoEightDeepAtMost() {
        for (Element method : calls.keySet()) {
            int deep = deepest(method, new ArrayDeque<>());
            isTrue(method + " with " + deep + " calls open", deep <= DEEPEST);
        }
    }

    /** How many calls, the library's too, stand open at once below this one, which is counted. */
    private static int deepest(Element method, Deque<Element> open) {
        if (open.contains(method)) {
            return Integer.MAX_VALUE / 2;
        }
        open.push(method);
        int below = 0;
        for (Element target : calls.getOrDefault(method, Set.of())) {
            below = Math.max(below, deepest(target, open));
        }
        open.pop();
        return below + 1;
    }

    private static Map<Element, Set<Element>> calls() {
        Map<Element, Set<Element>> found = new HashMap<>();
        for (TreePath path : source.all(MethodTree.class)) {
            Set<Element> targets = new HashSet<>();
            for (TreePath call : source.all(MethodInvocationTree.class, NewClassTree.class)) {
                if (isCalledIn(path, call)) {
                    targets.add(source.target(call));
                }
            }
            found.put(source.element(path), targets);
        }
        return found;
    }

    /** A call in a method is its own, a call for a field's first value is its class's constructors'. */
    private static boolean isCalledIn(TreePath method, TreePath call) {
        TreePath around = Source.method(call);
        if (around != null) {
            return around.getLeaf() == method.getLeaf();
        }
        return ((MethodTree) method.getLeaf()).getName().contentEquals("<init>")
                && method.getParentPath().getLeaf() == Source.holder(call).getLeaf();
    }

    // 9. "Every loop has an end that can be seen from its own lines"
    static void r09_eachLoopHasABound() {
        none("do", source.all(DoWhileLoopTree.class));
        for (TreePath path : source.all(ForLoopTree.class)) {
            ForLoopTree loop = (ForLoopTree) path.getLeaf();
            isTrue(at(path), String.valueOf(loop.getCondition()).matches("\\w+ (<|<=|>) .*"));
            isTrue(at(path), loop.getUpdate().toString().matches("\\w+(\\+\\+|--);?"));
        }
        for (TreePath path : source.all(WhileLoopTree.class)) {
            WhileLoopTree loop = (WhileLoopTree) path.getLeaf();
            String counter = loop.getCondition().toString().replaceFirst("^\\((\\w+) < .*", "$1");
            isTrue(at(path), loop.getStatement().toString().matches("\\{\\s*" + counter + "\\+\\+;\\s*\\}"));
        }
    }

    // 10. "joining texts by StringBuilder (not by +)": there are no texts at all.
    static void r10_noTextIsJoined() {
        none("a text", source.all(Tree.Kind.STRING_LITERAL));
        for (TreePath path : source.all(BinaryTree.class, CompoundAssignmentTree.class)) {
            isTrue(at(path), source.type(path).getKind().isPrimitive());
        }
    }

    // 11. "at most seven parameters. Methods stay short (some sixty lines) .. some twelve classes, and a class some
    // twenty fields beside its constants."
    static void r11_sizesAreKept() {
        for (TreePath path : source.all(MethodTree.class)) {
            MethodTree method = (MethodTree) path.getLeaf();
            isTrue(method.getName() + "'s parameters", method.getParameters().size() <= 7);
            isTrue(method.getName() + "'s lines: " + source.lines(path), source.lines(path) <= 60);
        }
        isTrue("classes", source.all(ClassTree.class).size() <= 12);
        for (TreePath path : source.all(ClassTree.class)) {
            int fields = 0;
            for (Tree member : ((ClassTree) path.getLeaf()).getMembers()) {
                fields += member instanceof VariableTree && !isStatic(member) ? 1 : 0;
            }
            isTrue("fields of " + source.element(path) + ": " + fields, fields <= 20);
        }
    }

    // 12. "What a run makes is counted": a call makes nothing, but for the constructor.
    static void r12_objectsAreMadeWithTheObjectAlone() {
        for (TreePath path : source.all(Tree.Kind.NEW_CLASS, Tree.Kind.NEW_ARRAY)) {
            isTrue(at(path), Source.field(path) != null);
        }
        for (TreePath path : source.all(MethodInvocationTree.class)) {
            isTrue(at(path), !isCloneOfARow(path) || Source.field(path) != null);
        }
    }
}
