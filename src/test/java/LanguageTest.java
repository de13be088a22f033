import com.sun.source.tree.ClassTree;
import com.sun.source.tree.CompilationUnitTree;
import com.sun.source.tree.ImportTree;
import com.sun.source.tree.LineMap;
import com.sun.source.tree.MethodInvocationTree;
import com.sun.source.tree.MethodTree;
import com.sun.source.tree.NewArrayTree;
import com.sun.source.tree.NewClassTree;
import com.sun.source.tree.Tree;
import com.sun.source.util.JavacTask;
import com.sun.source.util.TreePath;
import com.sun.source.util.TreePathScanner;
import com.sun.source.util.Trees;
import java.io.File;
import java.io.IOException;
import java.lang.reflect.Constructor;
import java.lang.reflect.Field;
import java.lang.reflect.Method;
import java.lang.reflect.Modifier;
import java.util.ArrayDeque;
import java.util.Deque;
import java.util.HashMap;
import java.util.HashSet;
import java.util.List;
import java.util.Map;
import java.util.Set;
import java.util.TreeMap;
import java.util.TreeSet;
import javax.lang.model.element.Element;
import javax.lang.model.element.ElementKind;
import javax.lang.model.element.ExecutableElement;
import javax.tools.JavaCompiler;
import javax.tools.StandardJavaFileManager;
import javax.tools.ToolProvider;

/** The face of the document, and those rules of LANGUAGE.md that a look at the source can tell. */
public final class LanguageTest {
    private static final Set<String> FACE = Set.of("int addClass(int)", "boolean addField(int,int,int)",
            "boolean addVariable(int,int)", "int make(int,int)", "boolean setVariable(int,long)",
            "boolean setPart(int,int,long)", "boolean run(boolean)", "boolean line(boolean)",
            "boolean put(char)", "int eval(int)", "int again(int)", "int request(int,int)",
            "int answer(int)", "int refuse(int)", "int look(int,int)", "long value(int)", "int count(int)");
    private static final Set<Tree.Kind> LEFT_OUT = Set.of(Tree.Kind.LAMBDA_EXPRESSION,
            Tree.Kind.MEMBER_REFERENCE, Tree.Kind.TRY, Tree.Kind.THROW, Tree.Kind.SYNCHRONIZED,
            Tree.Kind.ASSERT, Tree.Kind.SWITCH_EXPRESSION, Tree.Kind.BINDING_PATTERN, Tree.Kind.RECORD,
            Tree.Kind.ENUM, Tree.Kind.ANNOTATION, Tree.Kind.DOUBLE_LITERAL, Tree.Kind.FLOAT_LITERAL);
    // What the program uses of the library; LANGUAGE.md, rule 4, lists all of it.
    private static final Set<String> LIBRARY = Set.of("java.util.Arrays.fill", "java.lang.Integer.bitCount",
            "java.lang.String.length", "java.lang.String.charAt", "java.lang.String.indexOf",
            "java.lang.System.arraycopy", "java.lang.Object.<init>");

    private LanguageTest() {
    }

    public static void main(String[] args) throws IOException {
        face();
        nestedClasses();
        File file = new File("src/main/java/MirrorDesk.java");
        JavaCompiler compiler = ToolProvider.getSystemJavaCompiler();
        try (StandardJavaFileManager files = compiler.getStandardFileManager(null, null, null)) {
            JavacTask task = (JavacTask) compiler.getTask(null, files, null, List.of("-proc:none"), null,
                    files.getJavaFileObjects(file));
            Look look = new Look(Trees.instance(task));
            Iterable<? extends CompilationUnitTree> units = task.parse();
            task.analyze();
            for (CompilationUnitTree unit : units) {
                look.scan(unit, null);
            }
            look.end();
        }
        Check.end();
    }

    private static String signature(Method method) {
        StringBuilder text = new StringBuilder(method.getReturnType() + " " + method.getName() + "(");
        for (Class<?> type : method.getParameterTypes()) {
            text.append(text.charAt(text.length() - 1) == '(' ? "" : ",").append(type);
        }
        return text.append(")").toString();
    }

    private static void face() {
        Class<?> desk = MirrorDesk.class;
        Check.isTrue("public and final", desk.getModifiers() == (Modifier.PUBLIC | Modifier.FINAL));
        Check.isTrue("it extends nothing", desk.getSuperclass() == Object.class);
        Set<String> names = new HashSet<>();
        Set<String> open = new TreeSet<>();
        for (Method method : desk.getDeclaredMethods()) {
            if (!Modifier.isPrivate(method.getModifiers())) {
                Check.same("public alone: " + method, method.getModifiers(), Modifier.PUBLIC);
                open.add(signature(method));
                names.add(method.getName());
            }
        }
        Check.isTrue("the face is " + open, open.equals(FACE));
        for (Method method : desk.getDeclaredMethods()) {
            Check.isFalse("a private method of a public name: " + method,
                    Modifier.isPrivate(method.getModifiers()) && names.contains(method.getName()));
        }
        Constructor<?>[] constructors = desk.getDeclaredConstructors();
        Check.same("one constructor", constructors.length, 1);
        Check.same("it is public", constructors[0].getModifiers(), Modifier.PUBLIC);
        Check.same("without parameters", constructors[0].getParameterCount(), 0);
        for (Field field : desk.getDeclaredFields()) {
            Check.isTrue("private: " + field, Modifier.isPrivate(field.getModifiers()));
        }
    }

    private static void nestedClasses() {
        Class<?>[] nested = MirrorDesk.class.getDeclaredClasses();
        Check.isTrue("at most twelve classes", nested.length < 12);
        for (Class<?> type : nested) {
            int modifiers = type.getModifiers();
            Check.isTrue("static and not open: " + type, Modifier.isStatic(modifiers)
                    && !Modifier.isPublic(modifiers) && !Modifier.isProtected(modifiers));
            int own = 0;
            for (Field field : type.getDeclaredFields()) {
                own += Modifier.isStatic(field.getModifiers()) ? 0 : 1;
            }
            Check.isTrue("at most twenty fields: " + type, own <= 20);
        }
        for (Class<?> type : nested) {
            staticFields(type);
        }
        staticFields(MirrorDesk.class);
    }

    private static void staticFields(Class<?> type) {
        for (Field field : type.getDeclaredFields()) {
            if (Modifier.isStatic(field.getModifiers())) {
                boolean constant = Set.of("int", "long", "boolean", "char", "java.lang.String")
                        .contains(field.getType().getName());
                Check.isTrue("a constant: " + field, constant && Modifier.isFinal(field.getModifiers()));
            }
        }
    }

    private static final class Look extends TreePathScanner<Void, Void> {
        private final Trees trees;
        private final Map<Element, Set<Element>> calls = new HashMap<>();
        private final Map<Element, Integer> depths = new HashMap<>();
        private final Deque<Element> methods = new ArrayDeque<>();
        private final Set<Element> faceMethods = new HashSet<>();
        private int loops;

        Look(Trees itsTrees) {
            trees = itsTrees;
        }

        private long lineOf(Tree tree, boolean last) {
            CompilationUnitTree unit = getCurrentPath().getCompilationUnit();
            LineMap lines = unit.getLineMap();
            long at = last ? trees.getSourcePositions().getEndPosition(unit, tree)
                    : trees.getSourcePositions().getStartPosition(unit, tree);
            return lines.getLineNumber(at);
        }

        @Override
        public Void scan(Tree tree, Void nothing) {
            if (tree != null) {
                Check.isFalse("left out: " + tree.getKind(), LEFT_OUT.contains(tree.getKind()));
                boolean loop = Set.of(Tree.Kind.FOR_LOOP, Tree.Kind.WHILE_LOOP, Tree.Kind.DO_WHILE_LOOP,
                        Tree.Kind.ENHANCED_FOR_LOOP).contains(tree.getKind());
                loops += loop ? 1 : 0;
                super.scan(tree, nothing);
                loops -= loop ? 1 : 0;
            }
            return null;
        }

        @Override
        public Void visitImport(ImportTree tree, Void nothing) {
            Check.isTrue("import of " + tree.getQualifiedIdentifier(),
                    tree.getQualifiedIdentifier().toString().equals("java.util.Arrays"));
            return null;
        }

        @Override
        public Void visitClass(ClassTree tree, Void nothing) {
            for (Tree member : tree.getMembers()) {
                Check.isFalse("a block in a class", member.getKind() == Tree.Kind.BLOCK);
            }
            return super.visitClass(tree, nothing);
        }

        @Override
        public Void visitMethod(MethodTree tree, Void nothing) {
            Element method = trees.getElement(getCurrentPath());
            methods.push(method);
            calls.put(method, new HashSet<>());
            String name = tree.getName().toString();
            if (method.getModifiers().contains(javax.lang.model.element.Modifier.PUBLIC)) {
                faceMethods.add(method);
            } else {
                Check.isFalse("a name of the face: " + name,
                        FACE.stream().anyMatch(one -> one.contains(" " + name + "(")));
            }
            if (lineOf(tree, false) > 0 && lineOf(tree, true) > 0) {
                Check.isTrue("at most 60 lines: " + name, lineOf(tree, true) - lineOf(tree, false) < 60);
            }
            Check.isTrue("at most seven parameters: " + name, tree.getParameters().size() <= 7);
            super.visitMethod(tree, nothing);
            methods.pop();
            return null;
        }

        private void call(Element called) {
            Element type = called.getEnclosingElement();
            boolean own = type.toString().startsWith("MirrorDesk");
            if (own && !methods.isEmpty()) {
                calls.get(methods.peek()).add(called);
            }
            Check.isTrue("of the library: " + type + "." + called,
                    own || LIBRARY.contains(type + "." + called.getSimpleName()));
        }

        @Override
        public Void visitMethodInvocation(MethodInvocationTree tree, Void nothing) {
            Element called = trees.getElement(new TreePath(getCurrentPath(), tree.getMethodSelect()));
            call(called);
            return super.visitMethodInvocation(tree, nothing);
        }

        @Override
        public Void visitNewClass(NewClassTree tree, Void nothing) {
            Element made = trees.getElement(getCurrentPath());
            call(made);
            boolean inConstructor = methods.isEmpty()
                    || methods.peek().getKind() == ElementKind.CONSTRUCTOR;
            Check.isTrue("objects are made in constructors: " + made, inConstructor);
            return super.visitNewClass(tree, nothing);
        }

        @Override
        public Void visitNewArray(NewArrayTree tree, Void nothing) {
            boolean inConstructor = methods.isEmpty()
                    || methods.peek().getKind() == ElementKind.CONSTRUCTOR;
            Check.isTrue("rows are made in constructors", inConstructor && loops == 0);
            return super.visitNewArray(tree, nothing);
        }

        private Set<Element> reached(Element from) {
            Set<Element> all = new HashSet<>();
            Deque<Element> open = new ArrayDeque<>(calls.getOrDefault(from, Set.of()));
            while (!open.isEmpty()) {
                Element next = open.pop();
                if (all.add(next)) {
                    open.addAll(calls.getOrDefault(next, Set.of()));
                }
            }
            return all;
        }

        /** How many methods stand open at most, those that call one another counted as one. */
        private int depth(Element method) {
            if (depths.containsKey(method)) {
                return depths.get(method);
            }
            Set<Element> together = new HashSet<>(Set.of(method));
            for (Element other : reached(method)) {
                if (reached(other).contains(method)) {
                    together.add(other);
                }
            }
            int deepest = 0;
            for (Element one : together) {
                for (Element called : calls.getOrDefault(one, Set.of())) {
                    deepest = together.contains(called) ? deepest : Math.max(deepest, depth(called));
                }
            }
            for (Element one : together) {
                depths.put(one, deepest + 1);
            }
            return deepest + 1;
        }

        void end() {
            Map<String, Integer> deep = new TreeMap<>();
            for (Element method : faceMethods) {
                Check.isTrue("at most eight calls deep: " + method + " " + depth(method), depth(method) <= 8);
                deep.put(method.toString(), depth(method));
            }
            Set<String> recursive = new TreeSet<>();
            for (Element method : calls.keySet()) {
                if (reached(method).contains(method)) {
                    recursive.add(method.getSimpleName().toString());
                    ExecutableElement itself = (ExecutableElement) method;
                    Check.isTrue("recursion carries its depth: " + method, itself.getParameters().stream()
                            .anyMatch(one -> one.getSimpleName().contentEquals("depth")));
                }
            }
            System.out.println("depths: " + deep + "\nrecursive: " + recursive);
        }
    }
}
