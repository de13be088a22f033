import com.sun.source.tree.BinaryTree;
import com.sun.source.tree.BlockTree;
import com.sun.source.tree.CatchTree;
import com.sun.source.tree.ClassTree;
import com.sun.source.tree.CompilationUnitTree;
import com.sun.source.tree.EnhancedForLoopTree;
import com.sun.source.tree.ExpressionTree;
import com.sun.source.tree.ForLoopTree;
import com.sun.source.tree.ImportTree;
import com.sun.source.tree.LineMap;
import com.sun.source.tree.LiteralTree;
import com.sun.source.tree.MethodInvocationTree;
import com.sun.source.tree.MethodTree;
import com.sun.source.tree.NewClassTree;
import com.sun.source.tree.ThrowTree;
import com.sun.source.tree.Tree;
import com.sun.source.tree.TryTree;
import com.sun.source.tree.VariableTree;
import com.sun.source.tree.WhileLoopTree;
import com.sun.source.util.JavacTask;
import com.sun.source.util.TreePath;
import com.sun.source.util.TreePathScanner;
import com.sun.source.util.Trees;
import java.io.File;
import java.io.IOException;
import java.lang.management.ManagementFactory;
import java.lang.reflect.Array;
import java.lang.reflect.Constructor;
import java.lang.reflect.Field;
import java.lang.reflect.Method;
import java.lang.reflect.Modifier;
import java.nio.file.Files;
import java.util.ArrayDeque;
import java.util.Collections;
import java.util.Deque;
import java.util.HashMap;
import java.util.HashSet;
import java.util.IdentityHashMap;
import java.util.List;
import java.util.Map;
import java.util.Set;
import java.util.TreeMap;
import java.util.TreeSet;
import javax.lang.model.element.Element;
import javax.lang.model.element.ElementKind;
import javax.tools.JavaCompiler;
import javax.tools.StandardJavaFileManager;
import javax.tools.ToolProvider;

/** The face of the document, and those rules of LANGUAGE.md that a look at the source can tell. */
public final class LanguageTest {
    private static final Set<String> FACE = Set.of("int addClass(int)", "boolean addField(int,int,int)",
            "boolean addVariable(int,int)", "int make(int,int)", "boolean setVariable(int,long)",
            "boolean setPart(int,int,long)", "boolean run(boolean)", "boolean line(boolean)",
            "boolean put(char)", "int eval(int)", "int again(int)", "int request(int,int)",
            "int answer(int)", "int refuse(int)", "int look(int,int)", "long value(int)", "int count(int)");
    private static final Set<Tree.Kind> LEFT_OUT = Set.of(Tree.Kind.LAMBDA_EXPRESSION,
            Tree.Kind.MEMBER_REFERENCE, Tree.Kind.SYNCHRONIZED, Tree.Kind.ASSERT);
    // Rule 4, but for the functions of Integer, Long and Math.
    private static final Map<String, Set<String>> LIBRARY = Map.of(
            "java.lang.Object", Set.of("<init>"),
            "java.lang.String", Set.of("length", "charAt", "isEmpty", "equals", "indexOf", "substring",
                    "toCharArray", "<init>"),
            "java.lang.StringBuilder", Set.of("<init>", "append", "charAt", "setCharAt", "setLength",
                    "deleteCharAt", "reverse", "length", "toString"),
            "java.util.ArrayList", Set.of("<init>", "add", "get", "set", "remove", "size", "isEmpty",
                    "clear"),
            "java.util.List", Set.of("add", "get", "set", "remove", "size", "isEmpty", "clear", "of"),
            "java.lang.System", Set.of("arraycopy"),
            "java.util.Arrays", Set.of("copyOf", "copyOfRange", "fill"),
            "java.lang.Enum", Set.of("<init>"),
            "Array", Set.of("clone"));
    private static final Set<String> IMPORTS = Set.of("java.util.Arrays", "java.util.ArrayList",
            "java.util.List", "java.util.Iterator", "java.util.NoSuchElementException");
    private static final Set<String> EXCEPTIONS = Set.of("IllegalStateException", "IllegalArgumentException",
            "IndexOutOfBoundsException", "ArithmeticException", "UnsupportedOperationException",
            "NoSuchElementException", "RuntimeException");
    private static final String SIMPLE = "int|long|short|byte|char|boolean|double|float";

    private LanguageTest() {
    }

    public static void main(String[] args) throws IOException, IllegalAccessException {
        face();
        nestedClasses();
        room();
        File file = new File("src/main/java/MirrorDesk.java");
        for (char c : Files.readString(file.toPath()).toCharArray()) {
            Check.isTrue("a sign of 1 .. 127: " + (int) c, c >= 1 && c <= 127);
        }
        JavaCompiler compiler = ToolProvider.getSystemJavaCompiler();
        try (StandardJavaFileManager files = compiler.getStandardFileManager(null, null, null)) {
            JavacTask task = (JavacTask) compiler.getTask(null, files, null, List.of("-proc:none"), null,
                    files.getJavaFileObjects(file));
            Look look = new Look(Trees.instance(task));
            Iterable<? extends CompilationUnitTree> units = task.parse();
            task.analyze();
            for (CompilationUnitTree unit : units) {
                Check.isTrue("no package line", unit.getPackageName() == null);
                Check.same("one class of the file", unit.getTypeDecls().size(), 1);
                look.scan(unit, null);
            }
            look.end();
        }
        Check.end();
    }

    private static String signature(Method method) {
        StringBuilder text = new StringBuilder(method.getReturnType() + " " + method.getName() + "(");
        for (Class<?> type : method.getParameterTypes()) {
            text.append(text.charAt(text.length() - 1) == '(' ? "" : ",").append(type);
        }
        return text.append(")").toString();
    }

    // ---- rules 1, 2 and 5

    private static void face() {
        Class<?> desk = MirrorDesk.class;
        Check.isTrue("public and final", desk.getModifiers() == (Modifier.PUBLIC | Modifier.FINAL));
        Check.isTrue("it extends nothing", desk.getSuperclass() == Object.class);
        Set<String> names = new HashSet<>();
        Set<String> open = new TreeSet<>();
        for (Method method : desk.getDeclaredMethods()) {
            if (!Modifier.isPrivate(method.getModifiers()) && !method.isSynthetic()) {
                Check.same("public alone: " + method, method.getModifiers(), Modifier.PUBLIC);
                open.add(signature(method));
                names.add(method.getName());
            }
        }
        Check.isTrue("the face is " + open, open.equals(FACE));
        for (Method method : desk.getDeclaredMethods()) {
            Check.isFalse("a private method of a public name: " + method,
                    Modifier.isPrivate(method.getModifiers()) && names.contains(method.getName()));
        }
        Constructor<?>[] constructors = desk.getDeclaredConstructors();
        Check.same("one constructor", constructors.length, 1);
        Check.same("it is public", constructors[0].getModifiers(), Modifier.PUBLIC);
        Check.same("without parameters", constructors[0].getParameterCount(), 0);
        for (Field field : desk.getDeclaredFields()) {
            Check.isTrue("private: " + field, Modifier.isPrivate(field.getModifiers()));
        }
    }

    private static void nestedClasses() {
        Class<?>[] nested = MirrorDesk.class.getDeclaredClasses();
        Check.isTrue("at most twelve classes", nested.length < 12);
        for (Class<?> type : nested) {
            int modifiers = type.getModifiers();
            Check.isTrue("static and not open: " + type, Modifier.isStatic(modifiers)
                    && !Modifier.isPublic(modifiers) && !Modifier.isProtected(modifiers));
            int own = 0;
            for (Field field : type.getDeclaredFields()) {
                own += Modifier.isStatic(field.getModifiers()) ? 0 : 1;
            }
            Check.isTrue("at most twenty fields: " + type, own <= 20);
        }
        for (Class<?> type : nested) {
            staticFields(type);
        }
        staticFields(MirrorDesk.class);
    }

    private static void staticFields(Class<?> type) {
        for (Field field : type.getDeclaredFields()) {
            if (Modifier.isStatic(field.getModifiers()) && !type.isEnum()) {
                String of = field.getType().getSimpleName();
                Check.isTrue("a constant: " + field, Modifier.isFinal(field.getModifiers())
                        && (of.matches("(int|long|char|byte)(\\[\\])?|boolean|String")
                        || field.getType().isArray() && field.getType().getComponentType().isEnum()));
            }
        }
    }

    // ---- room

    /** The objects and arrays that a desk holds, and their fields and elements. */
    private static long[] held(Object from) throws IllegalAccessException {
        Set<Object> all = Collections.newSetFromMap(new IdentityHashMap<>());
        Deque<Object> open = new ArrayDeque<>(List.of(from));
        long parts = 0;
        while (!open.isEmpty()) {
            Object next = open.pop();
            if (!all.add(next)) {
                continue;
            }
            if (next.getClass().isArray()) {
                parts += Array.getLength(next);
                for (int i = 0; next instanceof Object[] row && i < row.length; i++) {
                    if (row[i] != null) {
                        open.push(row[i]);
                    }
                }
                continue;
            }
            for (Field field : next.getClass().getDeclaredFields()) {
                if (!Modifier.isStatic(field.getModifiers())) {
                    parts++;
                    boolean own = field.getDeclaringClass().getName().startsWith("MirrorDesk");
                    if (own && !field.getType().isPrimitive()) {
                        field.setAccessible(true);
                        if (field.get(next) != null) {
                            open.push(field.get(next));
                        }
                    }
                }
            }
        }
        return new long[] {all.size(), parts};
    }

    private static void calls(MirrorDesk desk) {
        desk.addClass(-1);
        desk.addVariable(0, Desks.ARRAY_OF_A);
        for (int object = 1; object <= 12; object++) {
            desk.make(Desks.ARRAY_OF_A, 5);
        }
        desk.setVariable(0, 12);
        desk.run(false);
        for (int e = 0; e < 4; e++) {
            Desks.work(desk, e, "a[" + e + "]==null?a[4]:a[3]");
        }
        for (int n = 0; n < 380; n++) {
            desk.again(n % 4);
        }
    }

    /** "some 600,000 objects and arrays, 7.3 million fields and elements in all" of many desks in a run. */
    private static void room() throws IllegalAccessException {
        calls(new MirrorDesk());
        com.sun.management.ThreadMXBean threads =
                (com.sun.management.ThreadMXBean) ManagementFactory.getThreadMXBean();
        long bytesBefore = threads.getCurrentThreadAllocatedBytes();
        MirrorDesk desk = new MirrorDesk();
        calls(desk);
        long bytes = threads.getCurrentThreadAllocatedBytes() - bytesBefore;
        long[] held = held(desk);
        System.out.println("a desk: " + held[0] + " objects and arrays, " + held[1]
                + " fields and elements; made in a run of 512 calls: " + bytes + " bytes");
        Check.isTrue("a desk is a hundredth of the room", held[0] <= 6000 && held[1] <= 73000);
        Check.isTrue("so are its calls", bytes <= 8 * 73000);
    }

    // ---- rules 3, 4 and 6 to 12

    private static final class Look extends TreePathScanner<Void, Void> {
        private final Trees trees;
        private final Map<Element, Set<Element>> calls = new HashMap<>();
        private final Map<Element, Integer> depths = new HashMap<>();
        private final Deque<Element> methods = new ArrayDeque<>();
        private final Set<Element> faceMethods = new HashSet<>();

        Look(Trees itsTrees) {
            trees = itsTrees;
        }

        private long lineOf(Tree tree, boolean last) {
            CompilationUnitTree unit = getCurrentPath().getCompilationUnit();
            LineMap lines = unit.getLineMap();
            long at = last ? trees.getSourcePositions().getEndPosition(unit, tree)
                    : trees.getSourcePositions().getStartPosition(unit, tree);
            return lines.getLineNumber(at);
        }

        @Override
        public Void scan(Tree tree, Void nothing) {
            if (tree != null) {
                Check.isFalse("left out: " + tree.getKind(), LEFT_OUT.contains(tree.getKind()));
            }
            return super.scan(tree, nothing);
        }

        private static boolean isOwn(String type) {
            for (Class<?> nested : MirrorDesk.class.getDeclaredClasses()) {
                if (type.matches("(MirrorDesk\\.)?" + nested.getSimpleName() + "(<\\w+>)?")) {
                    return true;
                }
            }
            return type.matches("MirrorDesk|[A-Z]");
        }

        private static boolean isType(String type) {
            String element = type.replaceAll("\\[\\]$|^(Array)?List<|>$", "");
            return type.matches("(" + SIMPLE + ")(\\[\\]){0,2}|String|StringBuilder|Integer|var")
                    || type.matches("((Array)?List|Iterator|Iterable)<Integer>") || isOwn(type)
                    || isOwn(element);
        }

        @Override
        public Void visitVariable(VariableTree tree, Void nothing) {
            Tree parent = getCurrentPath().getParentPath().getLeaf();
            if (!(parent instanceof CatchTree) && tree.getType() != null) {
                Check.isTrue("a variable of type " + tree.getType(), isType(tree.getType().toString()));
            }
            return super.visitVariable(tree, nothing);
        }

        @Override
        public Void visitBinary(BinaryTree tree, Void nothing) {
            boolean text = trees.getTypeMirror(getCurrentPath()).toString().equals("java.lang.String");
            Check.isFalse("texts joined by +: " + tree, text);
            return super.visitBinary(tree, nothing);
        }

        private static void checkLoop(ExpressionTree condition) {
            Check.isTrue("a loop that ends: " + condition,
                    condition != null && !(condition instanceof LiteralTree));
        }

        @Override
        public Void visitForLoop(ForLoopTree tree, Void nothing) {
            checkLoop(tree.getCondition());
            return super.visitForLoop(tree, nothing);
        }

        @Override
        public Void visitWhileLoop(WhileLoopTree tree, Void nothing) {
            checkLoop(tree.getCondition());
            return super.visitWhileLoop(tree, nothing);
        }

        @Override
        public Void visitEnhancedForLoop(EnhancedForLoopTree tree, Void nothing) {
            Check.isTrue("the variable of a loop has a type", tree.getVariable().getType() != null);
            return super.visitEnhancedForLoop(tree, nothing);
        }

        @Override
        public Void visitThrow(ThrowTree tree, Void nothing) {
            boolean good = tree.getExpression() instanceof NewClassTree made
                    && EXCEPTIONS.contains(made.getIdentifier().toString())
                    && (made.getArguments().isEmpty()
                    || made.getArguments().get(0).getKind() == Tree.Kind.STRING_LITERAL);
            Check.isTrue("a throw of rule 6: " + tree, good);
            Check.isFalse("a throw in a constructor", methods.peek().getKind() == ElementKind.CONSTRUCTOR);
            return super.visitThrow(tree, nothing);
        }

        @Override
        public Void visitTry(TryTree tree, Void nothing) {
            Check.isTrue("no finally, no resources",
                    tree.getFinallyBlock() == null && tree.getResources().isEmpty());
            for (CatchTree caught : tree.getCatches()) {
                Check.isTrue("a catch of rule 6: " + caught.getParameter(),
                        EXCEPTIONS.contains(caught.getParameter().getType().toString()));
            }
            return super.visitTry(tree, nothing);
        }

        @Override
        public Void visitImport(ImportTree tree, Void nothing) {
            Check.isTrue("import of " + tree.getQualifiedIdentifier(),
                    IMPORTS.contains(tree.getQualifiedIdentifier().toString()));
            return super.visitImport(tree, nothing);
        }

        @Override
        public Void visitClass(ClassTree tree, Void nothing) {
            for (Tree member : tree.getMembers()) {
                Check.isFalse("a static block", member instanceof BlockTree block && block.isStatic());
            }
            return super.visitClass(tree, nothing);
        }

        @Override
        public Void visitMethod(MethodTree tree, Void nothing) {
            Element method = trees.getElement(getCurrentPath());
            methods.push(method);
            calls.put(method, new HashSet<>());
            String name = tree.getName().toString();
            Check.isFalse("of every object: " + name,
                    Set.of("equals", "hashCode", "toString").contains(name));
            boolean ofTheDesk = method.getEnclosingElement().toString().equals("MirrorDesk");
            if (ofTheDesk && method.getModifiers().contains(javax.lang.model.element.Modifier.PUBLIC)) {
                faceMethods.add(method);
            }
            if (method.getModifiers().contains(javax.lang.model.element.Modifier.PRIVATE)) {
                Check.isFalse("a private method of a public name: " + name,
                        FACE.stream().anyMatch(one -> one.contains(" " + name + "(")));
            }
            if (lineOf(tree, false) > 0 && lineOf(tree, true) > 0) {
                Check.isTrue("some sixty lines: " + name, lineOf(tree, true) - lineOf(tree, false) < 66);
            }
            Check.isTrue("at most seven parameters: " + name, tree.getParameters().size() <= 7);
            super.visitMethod(tree, nothing);
            methods.pop();
            return null;
        }

        private void call(Element called) {
            String type = called.getEnclosingElement().toString().replaceAll("<.*", "");
            String name = called.getSimpleName().toString();
            boolean own = type.startsWith("MirrorDesk");
            if (own && !methods.isEmpty()) {
                calls.get(methods.peek()).add(called);
            }
            boolean function = type.matches("java\\.lang\\.(Integer|Long|Math)") && !name.endsWith("Exact");
            boolean exception = EXCEPTIONS.contains(type.replaceAll(".*\\.", "")) && name.equals("<init>");
            Check.isTrue("of the library: " + type + "." + called, own || function || exception
                    || LIBRARY.getOrDefault(type, Set.of()).contains(name));
        }

        @Override
        public Void visitMethodInvocation(MethodInvocationTree tree, Void nothing) {
            call(trees.getElement(new TreePath(getCurrentPath(), tree.getMethodSelect())));
            return super.visitMethodInvocation(tree, nothing);
        }

        @Override
        public Void visitNewClass(NewClassTree tree, Void nothing) {
            call(trees.getElement(getCurrentPath()));
            return super.visitNewClass(tree, nothing);
        }

        private Set<Element> reached(Element from) {
            Set<Element> all = new HashSet<>();
            Deque<Element> open = new ArrayDeque<>(calls.getOrDefault(from, Set.of()));
            while (!open.isEmpty()) {
                Element next = open.pop();
                if (all.add(next)) {
                    open.addAll(calls.getOrDefault(next, Set.of()));
                }
            }
            return all;
        }

        /** How many methods stand open at most, those that call one another counted as one. */
        private int depth(Element method) {
            if (depths.containsKey(method)) {
                return depths.get(method);
            }
            Set<Element> together = new HashSet<>(Set.of(method));
            for (Element other : reached(method)) {
                if (reached(other).contains(method)) {
                    together.add(other);
                }
            }
            int deepest = 0;
            for (Element one : together) {
                for (Element called : calls.getOrDefault(one, Set.of())) {
                    deepest = together.contains(called) ? deepest : Math.max(deepest, depth(called));
                }
            }
            for (Element one : together) {
                depths.put(one, deepest + 1);
            }
            return deepest + 1;
        }

        void end() {
            Map<String, Integer> deep = new TreeMap<>();
            for (Element method : faceMethods) {
                Check.isTrue("at most eight calls deep: " + method + " " + depth(method), depth(method) <= 8);
                deep.put(method.toString(), depth(method));
            }
            Set<String> recursive = new TreeSet<>();
            for (Element method : calls.keySet()) {
                if (reached(method).contains(method)) {
                    recursive.add(method.getSimpleName().toString());
                }
            }
            System.out.println("depths: " + deep + "\nrecursive: " + recursive);
        }
    }
}
