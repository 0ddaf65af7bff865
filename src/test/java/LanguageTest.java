import com.sun.source.tree.AssertTree;
import com.sun.source.tree.BinaryTree;
import com.sun.source.tree.BlockTree;
import com.sun.source.tree.ClassTree;
import com.sun.source.tree.CompilationUnitTree;
import com.sun.source.tree.IdentifierTree;
import com.sun.source.tree.ImportTree;
import com.sun.source.tree.LambdaExpressionTree;
import com.sun.source.tree.LiteralTree;
import com.sun.source.tree.MemberReferenceTree;
import com.sun.source.tree.MemberSelectTree;
import com.sun.source.tree.MethodInvocationTree;
import com.sun.source.tree.MethodTree;
import com.sun.source.tree.NewClassTree;
import com.sun.source.tree.PrimitiveTypeTree;
import com.sun.source.tree.SynchronizedTree;
import com.sun.source.tree.ThrowTree;
import com.sun.source.tree.Tree;
import com.sun.source.tree.TryTree;
import com.sun.source.tree.VariableTree;
import com.sun.source.util.JavacTask;
import com.sun.source.util.TreeScanner;
import com.sun.source.util.Trees;
import java.io.File;
import java.lang.reflect.Constructor;
import java.lang.reflect.Field;
import java.lang.reflect.Method;
import java.lang.reflect.Modifier;
import java.nio.file.Files;
import java.nio.file.Path;
import java.util.ArrayList;
import java.util.Arrays;
import java.util.HashMap;
import java.util.HashSet;
import java.util.List;
import java.util.Map;
import java.util.Set;
import java.util.TreeMap;
import java.util.TreeSet;
import javax.tools.JavaCompiler;
import javax.tools.StandardJavaFileManager;
import javax.tools.ToolProvider;

/** The rules of LANGUAGE.md that a look at the source can tell, and the face as DOC.md has it. */
public final class LanguageTest {
    private static final Set<String> LIBRARY = new HashSet<>(Arrays.asList("Math.max", "Math.min", "Math.abs",
        "Integer.bitCount", "Arrays.fill"));
    private static final Set<String> RECURSIVE = new HashSet<>(Arrays.asList("worstShort", "findWorst", "leastShort"));

    private static final List<String> faults = new ArrayList<>();
    private static final Map<String, Set<String>> calls = new HashMap<>();
    private static final Set<String> privateMethods = new HashSet<>();
    private static int classes = 0;
    private static int deepest = 0;

    public static void main(String[] args) throws Exception {
        File source = new File("src/main/java/WheelStore.java");
        JavaCompiler compiler = ToolProvider.getSystemJavaCompiler();
        StandardJavaFileManager files = compiler.getStandardFileManager(null, null, null);
        JavacTask task = (JavacTask) compiler.getTask(null, files, null, null, null, files.getJavaFileObjects(source));
        for (CompilationUnitTree unit : task.parse()) {
            new Rules(unit, Trees.instance(task)).scan(unit, null);
        }
        if (classes > 12) {
            faults.add("there are " + classes + " classes");
        }
        names();
        depths();
        face();
        for (String fault : faults) {
            System.out.println(fault);
        }
        System.out.println(classes + " classes, " + calls.size() + " methods, calls " + deepest + " deep, " + faults.size() + " faults");
        if (!faults.isEmpty() || classes == 0) {
            System.exit(1);
        }
    }

    private static final class Rules extends TreeScanner<Void, Void> {
        private final CompilationUnitTree unit;
        private final Trees trees;
        private String method = "";

        Rules(CompilationUnitTree unit, Trees trees) {
            this.unit = unit;
            this.trees = trees;
        }

        private long line(long position) {
            return unit.getLineMap().getLineNumber(position);
        }

        private void fault(Tree tree, String what) {
            faults.add("line " + line(trees.getSourcePositions().getStartPosition(unit, tree)) + ": " + what);
        }

        @Override
        public Void visitImport(ImportTree tree, Void nothing) {
            if (!tree.getQualifiedIdentifier().toString().equals("java.util.Arrays")) {
                fault(tree, "import of " + tree.getQualifiedIdentifier());
            }
            return null;
        }

        @Override
        public Void visitClass(ClassTree tree, Void nothing) {
            classes++;
            Set<javax.lang.model.element.Modifier> modifiers = tree.getModifiers().getFlags();
            boolean outer = tree.getSimpleName().contentEquals("WheelStore");
            if (!outer && !modifiers.contains(javax.lang.model.element.Modifier.STATIC)) {
                fault(tree, tree.getSimpleName() + " is not static");
            }
            int fields = 0;
            for (Tree member : tree.getMembers()) {
                if (member instanceof BlockTree) {
                    fault(member, "an initialiser block");
                }
                if (member instanceof VariableTree) {
                    Set<javax.lang.model.element.Modifier> flags = ((VariableTree) member).getModifiers().getFlags();
                    boolean isStatic = flags.contains(javax.lang.model.element.Modifier.STATIC);
                    if (isStatic && !flags.contains(javax.lang.model.element.Modifier.FINAL)) {
                        fault(member, "a static field that is not final");
                    }
                    fields += isStatic ? 0 : 1;
                }
            }
            if (fields > 20) {
                fault(tree, tree.getSimpleName() + " has " + fields + " fields");
            }
            return super.visitClass(tree, nothing);
        }

        @Override
        public Void visitMethod(MethodTree tree, Void nothing) {
            String before = method;
            method = tree.getName().toString();
            if (!method.equals("<init>")) {
                calls.computeIfAbsent(method, name -> new TreeSet<>());
            }
            if (tree.getModifiers().getFlags().contains(javax.lang.model.element.Modifier.PRIVATE)) {
                privateMethods.add(method);
            }
            if (tree.getParameters().size() > 7) {
                fault(tree, method + " takes " + tree.getParameters().size() + " parameters");
            }
            long lines = line(trees.getSourcePositions().getEndPosition(unit, tree))
                - line(trees.getSourcePositions().getStartPosition(unit, tree)) + 1;
            if (lines > 60) {
                fault(tree, method + " has " + lines + " lines");
            }
            super.visitMethod(tree, nothing);
            method = before;
            return null;
        }

        @Override
        public Void visitMethodInvocation(MethodInvocationTree tree, Void nothing) {
            Tree select = tree.getMethodSelect();
            if (select instanceof MemberSelectTree) {
                MemberSelectTree member = (MemberSelectTree) select;
                String of = member.getExpression().toString();
                if (Character.isUpperCase(of.charAt(0)) && of.matches("Math|Integer|Long|Arrays|System|String|Character")) {
                    if (!LIBRARY.contains(of + "." + member.getIdentifier())) {
                        fault(tree, "use of " + of + "." + member.getIdentifier());
                    }
                } else {
                    called(member.getIdentifier().toString());
                }
            } else {
                called(((IdentifierTree) select).getName().toString());
            }
            return super.visitMethodInvocation(tree, nothing);
        }

        private void called(String name) {
            if (calls.containsKey(method)) {
                calls.get(method).add(name);
            }
        }

        @Override
        public Void visitNewClass(NewClassTree tree, Void nothing) {
            if (tree.getClassBody() != null) {
                fault(tree, "an anonymous class");
            }
            return super.visitNewClass(tree, nothing);
        }

        @Override
        public Void visitBinary(BinaryTree tree, Void nothing) {
            if (tree.getKind() == Tree.Kind.PLUS && isText(tree.getLeftOperand()) | isText(tree.getRightOperand())) {
                fault(tree, "texts joined by +");
            }
            return super.visitBinary(tree, nothing);
        }

        private boolean isText(Tree tree) {
            return tree instanceof LiteralTree && ((LiteralTree) tree).getValue() instanceof String;
        }

        @Override
        public Void visitPrimitiveType(PrimitiveTypeTree tree, Void nothing) {
            switch (tree.getPrimitiveTypeKind()) {
                case DOUBLE:
                case FLOAT:
                    fault(tree, "a number that is no whole one");
                    break;
                default:
            }
            return null;
        }

        @Override
        public Void visitThrow(ThrowTree tree, Void nothing) {
            fault(tree, "throw");
            return null;
        }

        @Override
        public Void visitTry(TryTree tree, Void nothing) {
            fault(tree, "try");
            return null;
        }

        @Override
        public Void visitAssert(AssertTree tree, Void nothing) {
            fault(tree, "assert");
            return null;
        }

        @Override
        public Void visitSynchronized(SynchronizedTree tree, Void nothing) {
            fault(tree, "synchronized");
            return null;
        }

        @Override
        public Void visitLambdaExpression(LambdaExpressionTree tree, Void nothing) {
            fault(tree, "a lambda");
            return null;
        }

        @Override
        public Void visitMemberReference(MemberReferenceTree tree, Void nothing) {
            fault(tree, "a method reference");
            return null;
        }
    }

    private static void names() {
        for (Method method : WheelStore.class.getDeclaredMethods()) {
            if (Modifier.isPublic(method.getModifiers()) && privateMethods.contains(method.getName())) {
                faults.add("a private method bears the name of " + method.getName());
            }
        }
    }

    /** How deep calls go that are no recursion; methods of one name count as one. */
    private static void depths() {
        Map<String, Integer> known = new TreeMap<>();
        for (String name : calls.keySet()) {
            int depth = depth(name, known, new HashSet<>());
            deepest = Math.max(deepest, depth);
            if (depth > 8) {
                faults.add(name + " goes " + depth + " deep");
            }
        }
    }

    private static int depth(String name, Map<String, Integer> known, Set<String> open) {
        if (!calls.containsKey(name)) {
            return 0;
        }
        if (!open.add(name)) {
            if (!RECURSIVE.contains(name)) {
                faults.add(name + " calls itself");
            }
            return 0;
        }
        if (!known.containsKey(name)) {
            int deepest = 0;
            for (String next : calls.get(name)) {
                deepest = Math.max(deepest, depth(next, known, open));
            }
            known.put(name, deepest + 1);
        }
        open.remove(name);
        return known.get(name);
    }

    private static void face() throws Exception {
        String doc = Files.readString(Path.of("../shared/DOC.md"));
        int from = doc.indexOf("```java");
        Set<String> due = new TreeSet<>();
        for (String line : doc.substring(from, doc.indexOf("```", from + 3)).split("\n")) {
            String text = line.trim();
            if (text.startsWith("public ") && text.endsWith(";")) {
                due.add(text.replaceAll(" (\\w+)([,)])", "$2").replaceAll(" = .*", "").replaceAll("[;]| static| final", ""));
            }
        }
        Set<String> found = new TreeSet<>();
        for (Method method : WheelStore.class.getDeclaredMethods()) {
            describe(found, method.getModifiers(), method.getReturnType().getSimpleName() + " " + method.getName(),
                method.getParameterTypes());
        }
        for (Constructor<?> constructor : WheelStore.class.getDeclaredConstructors()) {
            describe(found, constructor.getModifiers(), "WheelStore", constructor.getParameterTypes());
        }
        for (Field field : WheelStore.class.getDeclaredFields()) {
            if (!Modifier.isPrivate(field.getModifiers())) {
                found.add("public " + field.getType().getSimpleName() + " " + field.getName());
            }
        }
        if (!found.equals(due)) {
            faults.add("the face is " + found + ", due is " + due);
        }
        if (!Modifier.isFinal(WheelStore.class.getModifiers()) || !Modifier.isPublic(WheelStore.class.getModifiers())) {
            faults.add("the class is not public and final");
        }
    }

    private static void describe(Set<String> found, int modifiers, String name, Class<?>[] parameters) {
        if (Modifier.isPrivate(modifiers)) {
            return;
        }
        StringBuilder text = new StringBuilder(Modifier.isPublic(modifiers) ? "public " : "open ").append(name).append('(');
        for (int i = 0; i < parameters.length; i++) {
            text.append(i > 0 ? ", " : "").append(parameters[i].getSimpleName());
        }
        found.add(text.append(')').toString());
    }
}
