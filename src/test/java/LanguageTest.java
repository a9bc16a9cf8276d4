import com.sun.source.tree.AssertTree;
import com.sun.source.tree.BinaryTree;
import com.sun.source.tree.ClassTree;
import com.sun.source.tree.CompilationUnitTree;
import com.sun.source.tree.InstanceOfTree;
import com.sun.source.tree.LambdaExpressionTree;
import com.sun.source.tree.MemberReferenceTree;
import com.sun.source.tree.MethodInvocationTree;
import com.sun.source.tree.MethodTree;
import com.sun.source.tree.NewClassTree;
import com.sun.source.tree.SynchronizedTree;
import com.sun.source.tree.ThrowTree;
import com.sun.source.tree.Tree;
import com.sun.source.tree.TryTree;
import com.sun.source.tree.VariableTree;
import com.sun.source.util.JavacTask;
import com.sun.source.util.TreePathScanner;
import com.sun.source.util.Trees;
import java.io.IOException;
import java.nio.file.Files;
import java.nio.file.Path;
import java.util.ArrayList;
import java.util.HashMap;
import java.util.HashSet;
import java.util.LinkedHashMap;
import java.util.List;
import java.util.Map;
import java.util.Set;
import java.util.TreeSet;
import javax.lang.model.element.Element;
import javax.lang.model.element.ElementKind;
import javax.lang.model.element.ExecutableElement;
import javax.lang.model.element.Modifier;
import javax.tools.JavaCompiler;
import javax.tools.StandardJavaFileManager;
import javax.tools.ToolProvider;

/** Looks through the class for what ../shared/LANGUAGE.md rules out, as far as a program can see it. */
public final class LanguageTest extends TreePathScanner<Void, Void> {
    private static final Path SOURCE = Path.of("src/main/java/SchoolBoard.java");
    private static final Set<String> LIBRARY = Set.of("String.length", "String.charAt", "StringBuilder.append",
            "StringBuilder.charAt", "StringBuilder.setLength", "StringBuilder.length", "StringBuilder.toString",
            "Arrays.fill", "Math.max", "Math.min", "Math.abs", "Integer.bitCount");
    private static final Set<String> MADE = Set.of("StringBuilder");

    private final Trees trees;
    private final CompilationUnitTree unit;
    private final Set<String> faults = new TreeSet<>();
    private final Map<String, Set<String>> calls = new LinkedHashMap<>();
    private final Set<String> publicNames = new HashSet<>();
    private final Set<String> otherNames = new HashSet<>();
    private final Set<String> privates = new HashSet<>();
    private final Set<String> statics = new HashSet<>();
    private int classes;
    private String method = "a field";

    private LanguageTest(Trees trees, CompilationUnitTree unit) {
        this.trees = trees;
        this.unit = unit;
    }

    public static void main(String[] args) throws IOException {
        JavaCompiler compiler = ToolProvider.getSystemJavaCompiler();
        StandardJavaFileManager files = compiler.getStandardFileManager(null, null, null);
        JavacTask task = (JavacTask) compiler.getTask(null, files, null, List.of("-proc:none"), null,
                files.getJavaFileObjects(SOURCE));
        CompilationUnitTree unit = task.parse().iterator().next();
        task.analyze();
        LanguageTest test = new LanguageTest(Trees.instance(task), unit);
        test.scan(unit, null);
        test.lookAtText();
        test.lookAtWhole();
        test.faults.forEach(System.out::println);
        System.out.println(test.faults.isEmpty() ? "nothing that is ruled out" : test.faults.size() + " things are ruled out");
        if (!test.faults.isEmpty()) {
            System.exit(1);
        }
    }

    private void lookAtText() throws IOException {
        for (String line : Files.readAllLines(SOURCE)) {
            if (line.chars().anyMatch(letter -> letter > 126)) {
                faults.add("a sign beyond 126: " + line);
            }
            if (line.startsWith("package") || line.startsWith("import") && !line.equals("import java.util.Arrays;")) {
                faults.add(line);
            }
        }
    }

    private void lookAtWhole() {
        if (classes > 12) {
            faults.add("rule 11: " + classes + " classes");
        }
        for (String name : otherNames) {
            if (publicNames.contains(name)) {
                faults.add("rule 1: another method is called " + name);
            }
        }
        lookAtRecursion();
        Map<String, Integer> deep = new HashMap<>();
        for (String caller : calls.keySet()) {
            int depth = depth(caller, deep, new HashSet<>());
            if (depth > 8) {
                faults.add("rule 11: " + depth + " calls deep from " + caller);
            }
        }
    }

    /** Rule 8: a private static method that calls itself, or private methods that call one another. */
    private void lookAtRecursion() {
        for (String caller : calls.keySet()) {
            if (!goesRound(caller)) {
                continue;
            }
            boolean isByOthers = calls.get(caller).stream()
                    .anyMatch(called -> !called.equals(caller) && reached(called).contains(caller));
            if (!privates.contains(caller) || !isByOthers && !statics.contains(caller)) {
                faults.add("rule 8: recursion of " + caller);
            }
        }
    }

    /** How many methods stand open at most from one on; a method that stands open already is recursion. */
    private int depth(String caller, Map<String, Integer> deep, Set<String> open) {
        if (deep.containsKey(caller)) {
            return deep.get(caller);
        }
        open.add(caller);
        int most = 0;
        for (String called : calls.getOrDefault(caller, Set.of())) {
            if (!open.contains(called)) {
                most = Math.max(most, depth(called, deep, open));
            }
        }
        open.remove(caller);
        // What goes round depends on where it was entered, so only the rest is kept.
        if (!goesRound(caller)) {
            deep.put(caller, most + 1);
        }
        return most + 1;
    }

    private boolean goesRound(String caller) {
        return reached(caller).contains(caller);
    }

    private Set<String> reached(String caller) {
        Set<String> seen = new HashSet<>();
        List<String> next = new ArrayList<>(calls.getOrDefault(caller, Set.of()));
        while (!next.isEmpty()) {
            String called = next.remove(next.size() - 1);
            if (seen.add(called)) {
                next.addAll(calls.getOrDefault(called, Set.of()));
            }
        }
        return seen;
    }

    @Override
    public Void visitClass(ClassTree tree, Void none) {
        classes++;
        Element element = trees.getElement(getCurrentPath());
        boolean isOuter = element.getEnclosingElement().getKind() == ElementKind.PACKAGE;
        if (!isOuter && !element.getModifiers().contains(Modifier.STATIC)) {
            faults.add("rule 2: not static: " + element);
        }
        int fields = 0;
        for (Tree member : tree.getMembers()) {
            if (member instanceof VariableTree field) {
                boolean isStatic = field.getModifiers().getFlags().contains(Modifier.STATIC);
                fields += isStatic ? 0 : 1;
                lookAtField(field, isStatic, isOuter);
            } else if (member.getKind() == Tree.Kind.BLOCK) {
                faults.add("rule 5: a block in " + element);
            }
        }
        if (fields > 20) {
            faults.add("rule 11: " + fields + " fields in " + element);
        }
        return super.visitClass(tree, none);
    }

    private void lookAtField(VariableTree field, boolean isStatic, boolean isOuter) {
        Set<Modifier> flags = field.getModifiers().getFlags();
        if (isStatic && !flags.contains(Modifier.FINAL)) {
            faults.add("rule 5: not final: " + field.getName());
        }
        if (isOuter && !flags.contains(Modifier.PRIVATE) && !field.getName().contentEquals("NONE")) {
            faults.add("rule 1: not private: " + field.getName());
        }
    }

    @Override
    public Void visitMethod(MethodTree tree, Void none) {
        ExecutableElement element = (ExecutableElement) trees.getElement(getCurrentPath());
        String before = method;
        method = element.getEnclosingElement() + "." + element;
        calls.putIfAbsent(method, new HashSet<>());
        boolean isPublic = element.getModifiers().contains(Modifier.PUBLIC);
        if (element.getModifiers().contains(Modifier.PRIVATE)) {
            privates.add(method);
        }
        if (element.getModifiers().contains(Modifier.STATIC)) {
            statics.add(method);
        }
        if (element.getKind() == ElementKind.METHOD) {
            (isPublic ? publicNames : otherNames).add(element.getSimpleName().toString());
        }
        if (tree.getParameters().size() > 7) {
            faults.add("rule 11: too many parameters: " + method);
        }
        long lines = line(trees.getSourcePositions().getEndPosition(unit, tree))
                - line(trees.getSourcePositions().getStartPosition(unit, tree)) + 1;
        if (lines > 60) {
            faults.add("rule 11: " + lines + " lines: " + method);
        }
        super.visitMethod(tree, none);
        method = before;
        return null;
    }

    private long line(long place) {
        return unit.getLineMap().getLineNumber(place);
    }

    @Override
    public Void visitMethodInvocation(MethodInvocationTree tree, Void none) {
        Element called = trees.getElement(getCurrentPath());
        Element owner = called.getEnclosingElement();
        if (owner.toString().startsWith("SchoolBoard")) {
            calls.computeIfAbsent(method, key -> new HashSet<>()).add(owner + "." + called);
        } else if (!called.getSimpleName().contentEquals("<init>")) {
            String name = owner.getSimpleName() + "." + called.getSimpleName();
            if (!LIBRARY.contains(name) && !name.equals("AbstractStringBuilder.length")
                    && !name.equals("AbstractStringBuilder.charAt") && !name.equals("AbstractStringBuilder.setLength")) {
                faults.add("rule 4: " + name + " in " + method);
            }
        }
        return super.visitMethodInvocation(tree, none);
    }

    @Override
    public Void visitNewClass(NewClassTree tree, Void none) {
        Element made = trees.getElement(getCurrentPath()).getEnclosingElement();
        if (!made.toString().startsWith("SchoolBoard") && !MADE.contains(made.getSimpleName().toString())) {
            faults.add("rule 4: new " + made);
        }
        return super.visitNewClass(tree, none);
    }

    @Override
    public Void visitBinary(BinaryTree tree, Void none) {
        if (tree.getKind() == Tree.Kind.PLUS
                && trees.getTypeMirror(getCurrentPath()).toString().equals("java.lang.String")) {
            faults.add("rule 10: texts joined by + in " + method);
        }
        return super.visitBinary(tree, none);
    }

    private Void ruledOut(String what) {
        faults.add(what + " in " + method);
        return null;
    }

    @Override
    public Void visitThrow(ThrowTree tree, Void none) {
        return ruledOut("rule 6: throw");
    }

    @Override
    public Void visitTry(TryTree tree, Void none) {
        return ruledOut("rule 6: try");
    }

    @Override
    public Void visitAssert(AssertTree tree, Void none) {
        return ruledOut("rule 6: assert");
    }

    @Override
    public Void visitSynchronized(SynchronizedTree tree, Void none) {
        return ruledOut("rule 6: synchronized");
    }

    @Override
    public Void visitLambdaExpression(LambdaExpressionTree tree, Void none) {
        return ruledOut("rule 2: a lambda");
    }

    @Override
    public Void visitMemberReference(MemberReferenceTree tree, Void none) {
        return ruledOut("rule 2: a method reference");
    }

    @Override
    public Void visitInstanceOf(InstanceOfTree tree, Void none) {
        return ruledOut("no class here has kinds: instanceof");
    }
}
