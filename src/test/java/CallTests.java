import com.sun.source.tree.BinaryTree;
import com.sun.source.tree.ClassTree;
import com.sun.source.tree.CompilationUnitTree;
import com.sun.source.tree.CompoundAssignmentTree;
import com.sun.source.tree.DoWhileLoopTree;
import com.sun.source.tree.ExpressionTree;
import com.sun.source.tree.ForLoopTree;
import com.sun.source.tree.IdentifierTree;
import com.sun.source.tree.LiteralTree;
import com.sun.source.tree.MemberSelectTree;
import com.sun.source.tree.MethodInvocationTree;
import com.sun.source.tree.MethodTree;
import com.sun.source.tree.NewArrayTree;
import com.sun.source.tree.NewClassTree;
import com.sun.source.tree.ParenthesizedTree;
import com.sun.source.tree.Tree;
import com.sun.source.tree.TypeCastTree;
import com.sun.source.tree.VariableTree;
import com.sun.source.tree.WhileLoopTree;
import com.sun.source.util.JavacTask;
import com.sun.source.util.TreePath;
import com.sun.source.util.TreePathScanner;
import com.sun.source.util.Trees;
import java.io.IOException;
import java.lang.reflect.Array;
import java.lang.reflect.Field;
import java.lang.reflect.Modifier;
import java.nio.file.Path;
import java.util.ArrayDeque;
import java.util.Collections;
import java.util.Deque;
import java.util.IdentityHashMap;
import java.util.LinkedHashMap;
import java.util.LinkedHashSet;
import java.util.List;
import java.util.Map;
import java.util.Set;
import javax.lang.model.element.Element;
import javax.lang.model.element.ElementKind;
import javax.lang.model.element.VariableElement;
import javax.lang.model.type.ArrayType;
import javax.lang.model.type.DeclaredType;
import javax.lang.model.type.TypeKind;
import javax.lang.model.type.TypeMirror;
import javax.tools.JavaCompiler;
import javax.tools.StandardJavaFileManager;
import javax.tools.ToolProvider;

/** The rules of LANGUAGE.md that the compiler's own tree of the class tells: its calls, types, divisors and loops. */
public final class CallTests {
    private static final int DEEPEST = 8;
    /** So few that the room of one run has place for some thousand towns. */
    private static final int MOST_OBJECTS = 100, MOST_ITEMS = 1500;
    private static final String LIBRARY = "java\\.lang\\.(Math|Integer|Long)\\.\\w+(?<!Exact)|java\\.lang\\.System\\.arraycopy"
        + "|java\\.util\\.Arrays\\.(copyOf|copyOfRange|fill)|java\\.lang\\.Object\\.<init>";

    private static int checks = 0;
    private static int wrong = 0;

    public static void main(String[] args) throws IOException, IllegalAccessException {
        JavaCompiler compiler = ToolProvider.getSystemJavaCompiler();
        try (StandardJavaFileManager files = compiler.getStandardFileManager(null, null, null)) {
            Path source = Path.of("src/main/java/SweptDownhill.java");
            JavacTask task = (JavacTask) compiler.getTask(null, files, null, List.of("-proc:none"), null,
                files.getJavaFileObjects(source));
            CompilationUnitTree unit = task.parse().iterator().next();
            task.analyze();
            Look look = new Look(Trees.instance(task));
            look.scan(unit, null);
            depths(look);
        }
        room();
        System.out.println("calls: " + checks + " checks, " + wrong + " wrong");
        if (wrong != 0) {
            System.exit(1);
        }
    }

    private static void check(boolean holds, String what) {
        checks++;
        if (!holds) {
            wrong++;
            System.out.println("rule broken: " + what);
        }
    }

    private static void depths(Look look) {
        int deepest = 0;
        for (Element method : look.calls.keySet()) {
            deepest = Math.max(deepest, depth(look, method, new ArrayDeque<>()));
        }
        check(deepest >= 2, "rule 11: no calls were found");
        check(deepest <= DEEPEST, "rule 11: calls go " + deepest + " deep");
    }

    /** How many calls stand open at once from a method on, those of recursion counted once. */
    private static int depth(Look look, Element method, Deque<Element> open) {
        open.push(method);
        int deepest = 0;
        for (Element called : look.calls.get(method)) {
            if (called.equals(method)) {
                check(method.getModifiers().containsAll(Set.of(javax.lang.model.element.Modifier.PRIVATE,
                    javax.lang.model.element.Modifier.STATIC)), "rule 8: " + method + " calls itself");
            } else if (open.contains(called)) {
                check(false, "rule 8: " + method + " and " + called + " call one another");
            } else if (look.calls.containsKey(called)) {
                deepest = Math.max(deepest, depth(look, called, open));
            }
        }
        open.pop();
        return deepest + 1;
    }

    /** Goes through the class and notes which method calls which. */
    private static final class Look extends TreePathScanner<Void, Void> {
        final Map<Element, Set<Element>> calls = new LinkedHashMap<>();
        private final Trees trees;
        private Element method = null;

        Look(Trees trees) {
            this.trees = trees;
        }

        private Element element() {
            return trees.getElement(getCurrentPath());
        }

        private static boolean isOwn(Element each) {
            Element outer = each;
            while (outer.getEnclosingElement().getKind() != ElementKind.PACKAGE) {
                outer = outer.getEnclosingElement();
            }
            return outer.getSimpleName().contentEquals("SweptDownhill");
        }

        @Override
        public Void visitMethod(MethodTree tree, Void none) {
            Element outer = method;
            method = element();
            calls.computeIfAbsent(method, m -> new LinkedHashSet<>());
            if (method.getKind() != ElementKind.CONSTRUCTOR) {
                type(trees.getTypeMirror(new TreePath(getCurrentPath(), tree.getReturnType())));
            }
            super.visitMethod(tree, none);
            method = outer;
            return null;
        }

        @Override
        public Void visitClass(ClassTree tree, Void none) {
            Element outer = method;
            method = null;
            super.visitClass(tree, none);
            method = outer;
            return null;
        }

        private void call(Element called) {
            if (!isOwn(called)) {
                String name = called.getEnclosingElement() + "." + called.getSimpleName();
                check(name.matches(LIBRARY), "rule 4: " + name);
            } else if (method != null) {
                calls.computeIfAbsent(method, m -> new LinkedHashSet<>()).add(called);
            }
        }

        @Override
        public Void visitMethodInvocation(MethodInvocationTree tree, Void none) {
            call(element());
            return super.visitMethodInvocation(tree, none);
        }

        private void made(Tree what) {
            check(method == null || method.getKind() == ElementKind.CONSTRUCTOR, "the room: a call makes " + what);
        }

        @Override
        public Void visitNewClass(NewClassTree tree, Void none) {
            made(tree);
            check(tree.getClassBody() == null, "rule 2: " + tree);
            call(element());
            return super.visitNewClass(tree, none);
        }

        @Override
        public Void visitNewArray(NewArrayTree tree, Void none) {
            made(tree);
            check(tree.getInitializers() != null || isConstant(tree.getDimensions().get(0)), "rule 7: the length of " + tree);
            return super.visitNewArray(tree, none);
        }

        @Override
        public Void visitVariable(VariableTree tree, Void none) {
            type(element().asType());
            return super.visitVariable(tree, none);
        }

        private static void type(TypeMirror type) {
            TypeMirror item = type;
            int dimensions = 0;
            while (item.getKind() == TypeKind.ARRAY) {
                item = ((ArrayType) item).getComponentType();
                dimensions++;
            }
            boolean own = item instanceof DeclaredType declared && isOwn(declared.asElement());
            boolean plain = item.getKind().isPrimitive() || item.getKind() == TypeKind.VOID;
            check(plain && dimensions <= 2 || own && dimensions <= 1, "rule 3: " + type);
        }

        @Override
        public Void visitTypeCast(TypeCastTree tree, Void none) {
            check(trees.getTypeMirror(new TreePath(getCurrentPath(), tree.getType())).getKind().isPrimitive(),
                "rule 6: the cast " + tree);
            return super.visitTypeCast(tree, none);
        }

        private boolean isConstant(ExpressionTree tree) {
            if (tree instanceof LiteralTree literal) {
                return literal.getValue() instanceof Integer value && value != 0;
            }
            if (tree instanceof ParenthesizedTree inner) {
                return isConstant(inner.getExpression());
            }
            if (tree instanceof BinaryTree product && product.getKind() == Tree.Kind.MULTIPLY) {
                return isConstant(product.getLeftOperand()) && isConstant(product.getRightOperand());
            }
            return (tree instanceof IdentifierTree || tree instanceof MemberSelectTree)
                && trees.getElement(new TreePath(getCurrentPath(), tree)) instanceof VariableElement named
                && named.getConstantValue() instanceof Integer value && value != 0;
        }

        @Override
        public Void visitBinary(BinaryTree tree, Void none) {
            if (tree.getKind() == Tree.Kind.DIVIDE || tree.getKind() == Tree.Kind.REMAINDER) {
                check(isConstant(tree.getRightOperand()), "rule 7: the divisor of " + tree);
            }
            return super.visitBinary(tree, none);
        }

        @Override
        public Void visitCompoundAssignment(CompoundAssignmentTree tree, Void none) {
            if (tree.getKind() == Tree.Kind.DIVIDE_ASSIGNMENT || tree.getKind() == Tree.Kind.REMAINDER_ASSIGNMENT) {
                check(isConstant(tree.getExpression()), "rule 7: the divisor of " + tree);
            }
            return super.visitCompoundAssignment(tree, none);
        }

        /** A loop's end is a comparison, alone or with more. */
        private void end(ExpressionTree condition) {
            ExpressionTree first = condition;
            while (first instanceof ParenthesizedTree inner) {
                first = inner.getExpression();
            }
            while (first instanceof BinaryTree both && both.getKind() == Tree.Kind.CONDITIONAL_AND) {
                first = both.getLeftOperand();
            }
            check(first instanceof BinaryTree, "rule 9: the end of a loop: " + condition);
        }

        @Override
        public Void visitForLoop(ForLoopTree tree, Void none) {
            end(tree.getCondition());
            return super.visitForLoop(tree, none);
        }

        @Override
        public Void visitWhileLoop(WhileLoopTree tree, Void none) {
            end(tree.getCondition());
            return super.visitWhileLoop(tree, none);
        }

        @Override
        public Void visitDoWhileLoop(DoWhileLoopTree tree, Void none) {
            end(tree.getCondition());
            return super.visitDoWhileLoop(tree, none);
        }
    }

    /** What one town takes of the room: objects and arrays, and their fields and elements. */
    private static void room() throws IllegalAccessException {
        Set<Object> seen = Collections.newSetFromMap(new IdentityHashMap<>());
        Deque<Object> open = new ArrayDeque<>();
        SweptDownhill town = new SweptDownhill();
        seen.add(town);
        open.push(town);
        int items = 0;
        while (!open.isEmpty()) {
            for (Object each : itemsOf(open.pop())) {
                items++;
                if (isHeld(each) && seen.add(each)) {
                    open.push(each);
                }
            }
        }
        check(seen.size() > 1 && seen.size() <= MOST_OBJECTS, "the room: " + seen.size() + " objects and arrays");
        check(items <= MOST_ITEMS, "the room: " + items + " fields and elements");
    }

    private static Object heldOr0(Object value) {
        return value == null ? 0 : value;
    }

    private static boolean isHeld(Object each) {
        return each.getClass().isArray() || each.getClass().getName().startsWith("SweptDownhill");
    }

    private static Iterable<Object> itemsOf(Object holder) throws IllegalAccessException {
        Deque<Object> items = new ArrayDeque<>();
        for (int i = 0; holder.getClass().isArray() && i < Array.getLength(holder); i++) {
            items.add(heldOr0(Array.get(holder, i)));
        }
        for (Field field : holder.getClass().isArray() ? new Field[0] : holder.getClass().getDeclaredFields()) {
            if (!Modifier.isStatic(field.getModifiers())) {
                field.setAccessible(true);
                items.add(heldOr0(field.get(holder)));
            }
        }
        return items;
    }
}
