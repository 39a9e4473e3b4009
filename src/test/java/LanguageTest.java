import com.sun.source.tree.ArrayAccessTree;
import com.sun.source.tree.AssertTree;
import com.sun.source.tree.BinaryTree;
import com.sun.source.tree.BlockTree;
import com.sun.source.tree.ClassTree;
import com.sun.source.tree.CompoundAssignmentTree;
import com.sun.source.tree.ConditionalExpressionTree;
import com.sun.source.tree.DoWhileLoopTree;
import com.sun.source.tree.EnhancedForLoopTree;
import com.sun.source.tree.ExpressionTree;
import com.sun.source.tree.ForLoopTree;
import com.sun.source.tree.IdentifierTree;
import com.sun.source.tree.IfTree;
import com.sun.source.tree.InstanceOfTree;
import com.sun.source.tree.LambdaExpressionTree;
import com.sun.source.tree.LiteralTree;
import com.sun.source.tree.MemberReferenceTree;
import com.sun.source.tree.MemberSelectTree;
import com.sun.source.tree.MethodInvocationTree;
import com.sun.source.tree.MethodTree;
import com.sun.source.tree.NewArrayTree;
import com.sun.source.tree.NewClassTree;
import com.sun.source.tree.SynchronizedTree;
import com.sun.source.tree.ThrowTree;
import com.sun.source.tree.Tree;
import com.sun.source.tree.TryTree;
import com.sun.source.tree.TypeCastTree;
import com.sun.source.tree.UnaryTree;
import com.sun.source.tree.VariableTree;
import com.sun.source.tree.WhileLoopTree;
import com.sun.source.util.TreePath;
import java.io.IOException;
import java.lang.reflect.Constructor;
import java.lang.reflect.Field;
import java.lang.reflect.Method;
import java.nio.file.Files;
import java.nio.file.Path;
import java.util.Arrays;
import java.util.IdentityHashMap;
import java.util.List;
import java.util.Map;
import java.util.Set;
import java.util.TreeSet;
import javax.lang.model.element.Element;
import javax.lang.model.element.ElementKind;
import javax.lang.model.element.ExecutableElement;
import javax.lang.model.element.Modifier;
import javax.lang.model.element.VariableElement;
import javax.lang.model.type.TypeMirror;

/**
 * LANGUAGE.md, rule by rule, by the compiler's tree of the program. Where a rule allows more than the
 * program uses, the test is the stricter one: what it holds to is seen at once.
 */
public final class LanguageTest {
    private static final Due due = new Due("LanguageTest");
    private static final Path FILE = Path.of("src/main/java/StreetKeys.java");
    private static final String FACE = "row(II)I lay(III)I at(II)I tear(I)I copy(IIIII)I mean(I)I text(II)I "
        + "put(III)I fault(IZ)I street(I)I year(I)I event(IIIZ)I back(I)I told(II)I mark(II)I house(II)I "
        + "person(II)I key(II)I trust(II)I alone(I)I wake(IIZ)I odds(IIZ)I soonest(IIZ)I round(IIZ)I stuck()I "
        + "safe(III)I suspects(I)I copies(II)I dead(I)I lost(II)I asked()I upper()J lower()J count(I)I "
        + "finding()I findings(I)I digest()J";
    private static final Set<String> LIBRARY = Set.of("java.lang.Math.max", "java.lang.Math.min",
        "java.lang.Integer.bitCount", "java.lang.System.arraycopy");
    private static final Set<String> PLAIN_TYPES = Set.of("int", "long", "boolean", "byte", "int[]", "void");

    /** Methods that look at a number before it is an index. */
    private static final String LOOKS = "(knows|isKey|spans|isPlace|arePersons)";

    private static SourceTree tree;
    private static String source;

    public static void main(String[] args) throws IOException {
        Path file = args.length > 0 ? Path.of(args[0]) : FILE;
        tree = new SourceTree(file);
        source = Files.readString(file);
        rule01TheFace();
        rule02ClassesInside();
        rule03Types();
        rule04Library();
        rule05StaticFields();
        rule06RuledOut();
        rule07Divisors();
        rule07Indexes();
        rule07References();
        rule08NoRecursion();
        rule09Loops();
        rule10Texts();
        rule11Sizes();
        rule12ObjectsWithTheObject();
        rule12Room();
        rule13SameAnswers();
        due.end();
    }

    private static void none(Class<? extends Tree> kind) {
        List<TreePath> found = tree.all(kind);
        due.is(kind.getSimpleName() + " in the program", found.size(), 0);
        for (TreePath p : found) {
            due.fail(tree.where(p));
        }
    }

    // ---- 1

    private static void rule01TheFace() {
        due.name("rule 1");
        due.is("package", tree.unit.getPackageName() == null ? 0 : 1, 0);
        due.is("types of the file", tree.unit.getTypeDecls().size(), 1);
        Class<?> c = StreetKeys.class;
        due.is("public and final", c.getModifiers(),
            java.lang.reflect.Modifier.PUBLIC | java.lang.reflect.Modifier.FINAL);
        Set<String> open = new TreeSet<>();
        for (Method m : c.getDeclaredMethods()) {
            if (java.lang.reflect.Modifier.isPublic(m.getModifiers())) {
                open.add(signature(m));
            }
        }
        if (!open.equals(new TreeSet<>(Arrays.asList(FACE.split(" "))))) {
            due.fail("public methods are " + open);
        }
        for (Constructor<?> k : c.getDeclaredConstructors()) {
            due.is("parameters of " + k, k.getParameterCount(), 0);
            due.is(k + " is public", k.getModifiers(), java.lang.reflect.Modifier.PUBLIC);
        }
        constants();
        membersAreHidden();
    }

    private static String signature(Method m) {
        StringBuilder s = new StringBuilder(m.getName()).append('(');
        for (Class<?> p : m.getParameterTypes()) {
            s.append(p.descriptorString());
        }
        return s.append(')').append(m.getReturnType().descriptorString()).toString();
    }

    private static void constants() {
        int[] got = {StreetKeys.BAD, StreetKeys.FULL, StreetKeys.FINDING, StreetKeys.STATE, StreetKeys.SPENT,
            StreetKeys.NONE};
        int[] want = {-1, -2, -3, -4, -6, -9};
        for (int i = 0; i < want.length; i++) {
            due.is("constant " + i, got[i], want[i]);
        }
    }

    /** No member but those of the document is seen, and no other method bears the name of one. */
    private static void membersAreHidden() {
        Set<String> names = new TreeSet<>();
        for (String call : FACE.split(" ")) {
            names.add(call.substring(0, call.indexOf('(')));
        }
        Set<String> told = Set.of("BAD", "FULL", "FINDING", "STATE", "SPENT", "NONE");
        for (TreePath p : tree.places) {
            boolean named = p.getLeaf() instanceof MethodTree || p.getLeaf() instanceof VariableTree;
            Element e = named ? tree.element(p) : null;
            if (e == null || !e.getEnclosingElement().getKind().isClass()) {
                continue;
            }
            boolean outer = e.getEnclosingElement().getSimpleName().contentEquals("StreetKeys");
            boolean open = e.getModifiers().contains(Modifier.PUBLIC);
            boolean closed = e.getModifiers().contains(Modifier.PRIVATE);
            String name = e.getSimpleName().toString();
            boolean constructor = e.getKind() == ElementKind.CONSTRUCTOR;
            boolean ofTheFace = outer && (constructor || told.contains(name) || names.contains(name));
            if (outer && !(ofTheFace && (open || e.getKind() == ElementKind.FIELD) || closed)) {
                due.fail(e + " is seen from outside");
            }
            if (e instanceof ExecutableElement && names.contains(name) && !(outer && open)) {
                due.fail(e + " bears the name of a public method");
            }
            if (outer && e.getKind() == ElementKind.FIELD && open != told.contains(name)) {
                due.fail("field " + e);
            }
        }
    }

    // ---- 2

    private static void rule02ClassesInside() {
        due.name("rule 2");
        none(LambdaExpressionTree.class);
        none(MemberReferenceTree.class);
        for (TreePath p : tree.all(ClassTree.class)) {
            Element e = tree.element(p);
            due.is(e + " is a plain class", p.getLeaf().getKind() == Tree.Kind.CLASS ? 1 : 0, 1);
            if (p.getParentPath().getLeaf() != tree.unit) {
                due.is(e + " stands in a class", p.getParentPath().getLeaf() instanceof ClassTree ? 1 : 0, 1);
                due.is(e + " is static", e.getModifiers().contains(Modifier.STATIC) ? 1 : 0, 1);
                due.is(e + " is private", e.getModifiers().contains(Modifier.PRIVATE) ? 1 : 0, 1);
            }
        }
        for (TreePath p : tree.all(NewClassTree.class)) {
            due.is(tree.where(p) + " has a body", ((NewClassTree) p.getLeaf()).getClassBody() == null ? 0 : 1, 0);
        }
    }

    // ---- 3

    private static void rule03Types() {
        due.name("rule 3");
        int seen = 0;
        for (TreePath p : tree.places) {
            Tree leaf = p.getLeaf();
            if (leaf instanceof VariableTree || leaf instanceof NewArrayTree || leaf instanceof NewClassTree
                    || leaf instanceof TypeCastTree) {
                isAllowed(p, tree.type(p));
                seen++;
            }
            if (leaf instanceof MethodTree) {
                isAllowed(p, ((ExecutableElement) tree.element(p)).getReturnType());
                seen++;
            }
        }
        due.is("enough types seen", seen > 300 ? 1 : 0, 1);
    }

    private static void isAllowed(TreePath p, TypeMirror type) {
        if (!PLAIN_TYPES.contains(type.toString()) && !type.toString().matches("StreetKeys(\\.\\w+)?")) {
            due.fail(type + ", " + tree.where(p));
        }
    }

    // ---- 4

    private static void rule04Library() {
        due.name("rule 4");
        due.is("imports", tree.unit.getImports().size(), 0);
        for (TreePath p : tree.all(MethodInvocationTree.class)) {
            Element called = tree.element(p);
            Element owner = called.getEnclosingElement();
            if (!tree.isOwn(owner) && !LIBRARY.contains(owner + "." + called.getSimpleName())) {
                due.fail(owner + "." + called + ", " + tree.where(p));
            }
        }
        for (TreePath p : tree.all(MemberSelectTree.class)) {
            Element e = tree.element(p);
            boolean length = ((MemberSelectTree) p.getLeaf()).getIdentifier().contentEquals("length");
            if (e.getKind() == ElementKind.FIELD && !length && !tree.isOwn(e.getEnclosingElement())) {
                due.fail("field " + tree.where(p));
            }
        }
        for (TreePath p : tree.all(NewClassTree.class)) {
            due.is(tree.where(p) + " is an own class", tree.isOwn(tree.element(p).getEnclosingElement()) ? 1 : 0, 1);
        }
        for (int i = 0; i < source.length(); i++) {
            char c = source.charAt(i);
            if (c != '\n' && (c < 32 || c > 126)) {
                due.fail("sign " + (int) c + " at place " + i);
            }
        }
    }

    // ---- 5

    private static void rule05StaticFields() {
        due.name("rule 5");
        int seen = 0;
        for (TreePath p : tree.all(VariableTree.class)) {
            Element e = tree.element(p);
            if (e.getModifiers().contains(Modifier.STATIC)) {
                seen++;
                due.is(e + " is final", e.getModifiers().contains(Modifier.FINAL) ? 1 : 0, 1);
                due.is(e + " is a constant", ((VariableElement) e).getConstantValue() instanceof Integer ? 1 : 0, 1);
            }
        }
        due.is("enough constants seen", seen > 30 ? 1 : 0, 1);
        for (TreePath p : tree.all(BlockTree.class)) {
            due.is("blocks outside methods", p.getParentPath().getLeaf() instanceof ClassTree ? 1 : 0, 0);
        }
    }

    // ---- 6

    private static void rule06RuledOut() {
        due.name("rule 6");
        none(ThrowTree.class);
        none(TryTree.class);
        none(SynchronizedTree.class);
        none(AssertTree.class);
        none(InstanceOfTree.class);
        for (TreePath p : tree.all(MethodTree.class)) {
            String name = ((MethodTree) p.getLeaf()).getName().toString();
            due.is(name + " of an own object", Set.of("equals", "hashCode", "toString").contains(name) ? 1 : 0, 0);
            due.is(name + " throws", ((MethodTree) p.getLeaf()).getThrows().size(), 0);
        }
        for (TreePath p : tree.all(TypeCastTree.class)) {
            due.is(tree.where(p) + " of numbers", tree.type(p).getKind().isPrimitive() ? 1 : 0, 1);
        }
        for (TreePath p : tree.all(BinaryTree.class)) {
            BinaryTree b = (BinaryTree) p.getLeaf();
            if (b.getKind() == Tree.Kind.EQUAL_TO || b.getKind() == Tree.Kind.NOT_EQUAL_TO) {
                boolean plain = tree.type(p, b.getLeftOperand()).getKind().isPrimitive()
                    && tree.type(p, b.getRightOperand()).getKind().isPrimitive();
                due.is(tree.where(p) + " of numbers", plain ? 1 : 0, 1);
            }
        }
    }

    // ---- 7

    /** A divisor is a constant above 0, or one that the lines ahead of it have looked at. */
    private static void rule07Divisors() {
        due.name("rule 7");
        Set<String> lookedAt = Set.of("mean size", "commonDivisor y", "tellFraction common");
        int seen = 0;
        for (TreePath p : tree.places) {
            Tree leaf = p.getLeaf();
            Tree.Kind kind = leaf.getKind();
            ExpressionTree by = null;
            if (kind == Tree.Kind.DIVIDE || kind == Tree.Kind.REMAINDER) {
                by = ((BinaryTree) leaf).getRightOperand();
            } else if (kind == Tree.Kind.DIVIDE_ASSIGNMENT || kind == Tree.Kind.REMAINDER_ASSIGNMENT) {
                by = ((CompoundAssignmentTree) leaf).getExpression();
            }
            if (by != null) {
                seen++;
                String name = tree.element(tree.enclosing(p, MethodTree.class)).getSimpleName() + " " + by;
                boolean constant = by.toString().matches("SETS|\\(?SETS \\* SETS\\)?");
                due.is(tree.where(p) + " is looked at", constant || lookedAt.contains(name) ? 1 : 0, 1);
            }
        }
        due.is("enough divisors seen", seen > 5 ? 1 : 0, 1);
    }

    /** Each name within an index is compared, or asked for by a method that compares it, ahead of its use. */
    private static void rule07Indexes() {
        List<TreePath> uses = tree.all(ArrayAccessTree.class);
        due.is("enough indexes seen", uses.size() > 100 ? 1 : 0, 1);
        for (TreePath use : uses) {
            String ahead = conditionsAhead(use);
            ArrayAccessTree access = (ArrayAccessTree) use.getLeaf();
            for (TreePath p : tree.inside(access.getIndex())) {
                Element e = p.getLeaf() instanceof IdentifierTree ? tree.element(p) : null;
                if (e instanceof VariableElement && !(e.getKind() == ElementKind.FIELD
                        && e.getModifiers().contains(Modifier.FINAL))) {
                    String looks = "(?s).*((?<![\\w.\\[])NAME (<|>=).*|" + LOOKS + "\\([^()]*\\bNAME\\b.*)";
                    boolean lookedAt = ahead.matches(looks.replace("NAME", e.getSimpleName()));
                    due.is(e + " is looked at, " + tree.where(use), lookedAt ? 1 : 0, 1);
                }
            }
        }
    }

    /** All conditions of a method up to the line of a use. */
    private static String conditionsAhead(TreePath use) {
        StringBuilder all = new StringBuilder();
        for (TreePath p : tree.inside(tree.enclosing(use, MethodTree.class).getLeaf())) {
            Tree condition = null;
            if (p.getLeaf() instanceof ForLoopTree loop) {
                condition = loop.getCondition();
            } else if (p.getLeaf() instanceof IfTree test) {
                condition = test.getCondition();
            } else if (p.getLeaf() instanceof ConditionalExpressionTree choice) {
                condition = choice.getCondition();
            } else if (p.getLeaf().getKind() == Tree.Kind.CONDITIONAL_AND) {
                condition = ((BinaryTree) p.getLeaf()).getLeftOperand();
            }
            if (condition != null && tree.lineOf(condition) <= tree.lineOf(use.getLeaf())) {
                all.append(condition).append('\n');
            }
        }
        return all.toString();
    }

    /** No reference is ever null: there is no null in the program, and each is set as the object is made. */
    private static void rule07References() {
        for (TreePath p : tree.all(LiteralTree.class)) {
            due.is(tree.where(p), p.getLeaf().getKind() == Tree.Kind.NULL_LITERAL ? 1 : 0, 0);
            due.is("texts", p.getLeaf().getKind() == Tree.Kind.STRING_LITERAL ? 1 : 0, 0);
        }
        count(new StreetKeys(), new IdentityHashMap<>(), new long[2]);
    }

    // ---- 8

    private static void rule08NoRecursion() {
        due.name("rule 8");
        for (ExecutableElement from : tree.calls.keySet()) {
            due.is(from + " goes on for ever", depth(from, 0) > tree.calls.size() ? 1 : 0, 0);
        }
    }

    /** How many calls stand open at once, counted up to one more than there are methods. */
    private static int depth(ExecutableElement from, int open) {
        int deepest = 1;
        if (open > tree.calls.size()) {
            return 1;
        }
        for (ExecutableElement to : tree.calls.get(from)) {
            deepest = Math.max(deepest, 1 + depth(to, open + 1));
        }
        return deepest;
    }

    // ---- 9

    /** Every loop counts up by one against a bound, and nothing else changes its counter. */
    private static void rule09Loops() {
        due.name("rule 9");
        none(WhileLoopTree.class);
        none(DoWhileLoopTree.class);
        none(EnhancedForLoopTree.class);
        List<TreePath> loops = tree.all(ForLoopTree.class);
        due.is("enough loops seen", loops.size() > 40 ? 1 : 0, 1);
        for (TreePath p : loops) {
            ForLoopTree loop = (ForLoopTree) p.getLeaf();
            boolean counts = loop.getInitializer().size() == 1 && loop.getInitializer().get(0) instanceof VariableTree
                && loop.getUpdate().size() == 1;
            if (!counts) {
                due.fail("a loop without a counter, " + tree.where(p));
                continue;
            }
            String counter = ((VariableTree) loop.getInitializer().get(0)).getName().toString();
            due.is(tree.where(p) + " counts up", loop.getUpdate().get(0).toString().equals(counter + "++;") ? 1 : 0, 1);
            String bound = "" + loop.getCondition();
            due.is(tree.where(p) + " has a bound", bound.matches("\\(?" + counter + " <=? .*") ? 1 : 0, 1);
            due.is(tree.where(p) + " has no way around it", bound.contains("||") ? 1 : 0, 0);
            due.is(tree.where(p) + " leaves its counter", changes(loop.getStatement(), counter), 0);
        }
    }

    private static int changes(Tree body, String name) {
        int changes = 0;
        for (TreePath p : tree.inside(body)) {
            String text = p.getLeaf().toString();
            boolean assigns = p.getLeaf() instanceof CompoundAssignmentTree
                || p.getLeaf().getKind() == Tree.Kind.ASSIGNMENT;
            boolean steps = p.getLeaf() instanceof UnaryTree && text.matches("(\\+\\+|--).*|.*(\\+\\+|--)");
            if (assigns && text.startsWith(name + " ") || steps && text.matches("\\W*" + name + "\\W*")) {
                changes++;
            }
        }
        return changes;
    }

    // ---- 10

    private static void rule10Texts() {
        due.name("rule 10");
        for (TreePath p : tree.all(IdentifierTree.class)) {
            due.is(tree.where(p), Set.of("String", "StringBuilder").contains(p.getLeaf().toString()) ? 1 : 0, 0);
        }
    }

    // ---- 11

    private static void rule11Sizes() {
        due.name("rule 11");
        List<TreePath> methods = tree.all(MethodTree.class);
        due.is("enough methods seen", methods.size() > 100 ? 1 : 0, 1);
        for (TreePath p : methods) {
            MethodTree m = (MethodTree) p.getLeaf();
            due.is(m.getName() + " takes seven at most", m.getParameters().size() <= 7 ? 1 : 0, 1);
            due.is(m.getName() + " is short", tree.lastLineOf(m) - tree.lineOf(m) < 60 ? 1 : 0, 1);
        }
        for (ExecutableElement from : tree.calls.keySet()) {
            due.is(from + " calls eight deep at most", depth(from, 0) <= 8 ? 1 : 0, 1);
        }
        List<TreePath> classes = tree.all(ClassTree.class);
        due.is("twelve classes at most", classes.size() <= 12 ? 1 : 0, 1);
        for (TreePath p : classes) {
            int fields = 0;
            for (Element e : tree.element(p).getEnclosedElements()) {
                fields += e.getKind() == ElementKind.FIELD && !e.getModifiers().contains(Modifier.STATIC) ? 1 : 0;
            }
            due.is(tree.element(p) + " has twenty fields at most", fields <= 20 ? 1 : 0, 1);
        }
    }

    // ---- 12

    private static void rule12ObjectsWithTheObject() {
        due.name("rule 12");
        int seen = 0;
        for (TreePath p : tree.places) {
            if (p.getLeaf() instanceof NewClassTree || p.getLeaf() instanceof NewArrayTree) {
                seen++;
                TreePath method = tree.enclosing(p, MethodTree.class);
                boolean inCall = method != null && tree.element(method).getKind() != ElementKind.CONSTRUCTOR;
                due.is(tree.where(p) + " in a call", inCall ? 1 : 0, 0);
                due.is(tree.where(p) + " in a loop", tree.enclosing(p, ForLoopTree.class) != null ? 1 : 0, 0);
            }
        }
        due.is("enough seen that is made", seen > 20 ? 1 : 0, 1);
        for (ExecutableElement from : tree.calls.keySet()) {
            if (from.getKind() == ElementKind.CONSTRUCTOR) {
                due.is(from.getEnclosingElement() + "'s constructor calls", tree.calls.get(from).size(), 0);
            }
        }
    }

    /** What an object holds is small, and no call makes it hold more. */
    private static void rule12Room() {
        String street = "h9h20h3h1h2h5p0:12p1:5p2:0p3:7p4:3p5:1p-:1";
        StreetKeys x = Due.street(street, "m0>0m1>1m2>3m3>4c0>3i1@2l2@0q0/1x3m3>0");
        long[] before = new long[2];
        count(x, new IdentityHashMap<>(), before);
        x.safe(2, 9, 0);
        x.round(6, 63, true);
        x.odds(6, 5, true);
        x.lost(0, 1);
        x.digest();
        long[] after = new long[2];
        count(x, new IdentityHashMap<>(), after);
        due.is("objects behind calls", after[0], before[0]);
        due.is("fields and elements behind calls", after[1], before[1]);
        // 512 objects would still fit the room of 600,000 objects and 7.3 million fields and elements.
        due.is("few objects", before[0] < 100 ? 1 : 0, 1);
        due.is("few fields and elements", before[1] < 14000 ? 1 : 0, 1);
    }

    private static void count(Object o, Map<Object, Object> seen, long[] sums) {
        if (o == null) {
            due.fail("a reference is null");
            return;
        }
        if (seen.put(o, o) != null) {
            return;
        }
        sums[0]++;
        if (o instanceof int[] row) {
            sums[1] += row.length;
            return;
        }
        for (Field f : o.getClass().getDeclaredFields()) {
            if (!java.lang.reflect.Modifier.isStatic(f.getModifiers())) {
                sums[1]++;
                countField(o, f, seen, sums);
            }
        }
    }

    private static void countField(Object o, Field f, Map<Object, Object> seen, long[] sums) {
        try {
            f.setAccessible(true);
            if (!f.getType().isPrimitive()) {
                count(f.get(o), seen, sums);
            }
        } catch (IllegalAccessException e) {
            due.fail(f + " can't be read");
        }
    }

    // ---- 13

    /** The library that rule 4 leaves knows no clock and no chance; an object told the same is the same. */
    private static void rule13SameAnswers() {
        due.name("rule 13");
        String street = "h9h20h3p0:12p1:5p2:0p-:1";
        String year = "m0>0m1>1m2>3c0>3i1@2l2@0q0/1x2m2>0";
        StreetKeys one = Due.street(street, year);
        new StreetKeys().row(0, 40);
        StreetKeys other = Due.street(street, year);
        due.is("digest", other.digest(), one.digest());
        due.is("round", other.round(0, 7, true), one.round(0, 7, true));
        due.is("odds", other.odds(1, 0, false), one.odds(1, 0, false));
        due.is("upper", other.upper(), one.upper());
        due.is("lower", other.lower(), one.lower());
    }
}
