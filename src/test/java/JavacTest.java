import com.sun.source.tree.CompilationUnitTree;
import com.sun.source.tree.IdentifierTree;
import com.sun.source.tree.InstanceOfTree;
import com.sun.source.tree.MemberSelectTree;
import com.sun.source.tree.ReturnTree;
import com.sun.source.tree.Tree;
import com.sun.source.tree.TypeCastTree;
import com.sun.source.util.JavacTask;
import com.sun.source.util.TreeScanner;
import java.io.ByteArrayOutputStream;
import java.io.IOException;
import java.io.OutputStream;
import java.net.URI;
import java.util.ArrayList;
import java.util.HashMap;
import java.util.HashSet;
import java.util.List;
import java.util.Map;
import java.util.Random;
import java.util.Set;
import java.util.regex.Matcher;
import java.util.regex.Pattern;
import javax.tools.Diagnostic;
import javax.tools.DiagnosticCollector;
import javax.tools.FileObject;
import javax.tools.ForwardingJavaFileManager;
import javax.tools.JavaCompiler;
import javax.tools.JavaFileManager;
import javax.tools.JavaFileObject;
import javax.tools.SimpleJavaFileObject;
import javax.tools.ToolProvider;

/**
 * The language of the document is close to Java's own, so javac tells which texts are expressions,
 * of what kinds, and what they come to. Texts of which both are known to differ are passed over.
 */
public final class JavacTest {
    private static final JavaCompiler COMPILER = ToolProvider.getSystemJavaCompiler();
    private static final Pattern TOKEN = Pattern.compile("\\s*([A-Za-z]+|\\d+L?|'[^'\\\\]'"
            + "|>>>|<<|>>|<=|>=|==|!=|&&|\\|\\||[()\\[\\].?:+*/%~!<>&^|-])");
    // Octal numbers and those too large; (A)+b, which is no cast in Java; arrays of classes that are
    // related, which are related in Java, too.
    private static final Pattern DIFFERENT = Pattern.compile("(?<!\\d)0\\d|2147483648(?!L)|\\d{11}"
            + "|\\(\\s*[A-F]\\s*\\)\\s*[+-]|\\(\\s*[A-E]\\s*\\[");

    // A; B extends A; C extends B; D; E extends D; F.
    private static final int[] PARENTS = {-1, 0, 1, -1, 3, -1};
    private static final int[][] FIELDS = {{0, -1, 16, 5}, {-1, 1, -1, -1}, {-1, -1, -1, -1},
        {10, 3, 4, -1}, {-1, -1, -1, 2}, {8, 9, 16, 0}};
    private static final int[] VARIABLES = {0, 0, 1, 1, 2, 2, 3, 3, 4, 4, 5, 5, 6, 7, 7, 8, 9, 9, 10, 10,
        11, 16, 16, 4, 7, -1, 5};
    private static final String[] KINDS = {"int", "long", "char", "boolean", "A", "B", "C", "D", "E", "F",
        "int[]", "A[]", "B[]", "C[]", "D[]", "E[]", "F[]"};

    private JavacTest() {
    }

    public static void main(String[] args) throws Exception {
        long seed = args.length > 0 ? Long.parseLong(args[0]) : 1;
        int rounds = args.length > 1 ? Integer.parseInt(args[1]) : 4;
        for (int n = 0; n < rounds; n++) {
            syntax(new Random(seed + n), 2000);
            kindsAndValues(seed + n, 1000);
        }
        Check.end();
    }

    private static RandomTexts texts(Random random) {
        return new RandomTexts(random, VARIABLES, FIELDS);
    }

    /** The tokens of a text with blanks between; null if it has none such, or too many. */
    private static String spaced(String text) {
        Matcher matcher = TOKEN.matcher(text);
        StringBuilder spaced = new StringBuilder();
        int at = 0;
        int open = 0;
        int choices = 0;
        int tokens = 0;
        while (at < text.stripTrailing().length()) {
            if (!matcher.region(at, text.length()).lookingAt()) {
                return null;
            }
            String token = matcher.group(1);
            at = matcher.end();
            boolean letterBehind = at < text.length() && Character.isLetter(text.charAt(at));
            if (Character.isDigit(token.charAt(0)) && letterBehind) {
                return null;
            }
            open += token.equals("(") || token.equals("[") ? 1 : 0;
            choices += token.equals("?") ? 1 : 0;
            tokens++;
            spaced.append(token.equals("this") ? "self" : token).append(' ');
        }
        boolean small = tokens > 0 && tokens <= 24 && open <= 6 && choices <= 4;
        return small && !DIFFERENT.matcher(text).find() ? spaced.toString() : null;
    }

    // ---- what is an expression

    private static void syntax(Random random, int texts) throws IOException {
        RandomTexts source = texts(random);
        for (int n = 0; n < texts; n++) {
            String text = source.next();
            String spaced = spaced(text);
            if (spaced != null) {
                MirrorDesk desk = Desks.stopped();
                boolean wellFormed = Desks.eval(desk, 0, text) != Desks.ILL_FORMED;
                Check.same("an expression: " + text, wellFormed, isExpression(spaced));
            }
        }
    }

    private static boolean isExpression(String java) throws IOException {
        DiagnosticCollector<JavaFileObject> faults = new DiagnosticCollector<>();
        JavaFileObject file = new Source("X", "class X{Object m(){return " + java + ";}}");
        JavacTask task = (JavacTask) COMPILER.getTask(null, null, faults, null, null, List.of(file));
        Scan scan = new Scan();
        for (CompilationUnitTree unit : task.parse()) {
            unit.accept(scan, null);
        }
        return faults.getDiagnostics().isEmpty() && scan.returns == 1 && scan.good;
    }

    /** Looks for what Java has and the document has not. */
    private static final class Scan extends TreeScanner<Void, Void> {
        private static final Set<Tree.Kind> LEFT_OUT = Set.of(Tree.Kind.METHOD_INVOCATION,
                Tree.Kind.NEW_CLASS, Tree.Kind.LAMBDA_EXPRESSION, Tree.Kind.MEMBER_REFERENCE,
                Tree.Kind.ASSIGNMENT, Tree.Kind.PARAMETERIZED_TYPE, Tree.Kind.BINDING_PATTERN,
                Tree.Kind.POSTFIX_INCREMENT, Tree.Kind.PREFIX_INCREMENT, Tree.Kind.ERRONEOUS);
        private int returns;
        private boolean good = true;
        private boolean inside;

        @Override
        public Void visitReturn(ReturnTree tree, Void nothing) {
            returns++;
            inside = true;
            super.visitReturn(tree, nothing);
            inside = false;
            return null;
        }

        @Override
        public Void scan(Tree tree, Void nothing) {
            if (tree != null && LEFT_OUT.contains(tree.getKind())) {
                good = false;
            }
            return super.scan(tree, nothing);
        }

        @Override
        public Void visitIdentifier(IdentifierTree tree, Void nothing) {
            good &= !inside || tree.getName().toString().matches("[a-z]|self");
            return null;
        }

        @Override
        public Void visitPrimitiveType(com.sun.source.tree.PrimitiveTypeTree tree, Void nothing) {
            good &= !inside;
            return null;
        }

        @Override
        public Void visitArrayType(com.sun.source.tree.ArrayTypeTree tree, Void nothing) {
            good &= !inside;
            return null;
        }

        @Override
        public Void visitMemberSelect(MemberSelectTree tree, Void nothing) {
            good &= tree.getIdentifier().toString().matches("[a-z]|length");
            return super.visitMemberSelect(tree, nothing);
        }

        @Override
        public Void visitInstanceOf(InstanceOfTree tree, Void nothing) {
            good &= tree.getType() != null && tree.getType().toString().matches("[A-F]");
            return scan(tree.getExpression(), nothing);
        }

        @Override
        public Void visitTypeCast(TypeCastTree tree, Void nothing) {
            good &= tree.getType().toString().matches("(int|[A-F])(\\[\\])?|long|char|boolean");
            return scan(tree.getExpression(), nothing);
        }
    }

    private static final class Source extends SimpleJavaFileObject {
        private final String text;

        Source(String name, String itsText) {
            super(URI.create("string:///" + name + ".java"), Kind.SOURCE);
            text = itsText;
        }

        @Override
        public CharSequence getCharContent(boolean ignoreErrors) {
            return text;
        }
    }

    // ---- kinds and values

    /** Where javac's classes stay in memory. */
    private static final class Store extends ForwardingJavaFileManager<JavaFileManager> {
        private final Map<String, ByteArrayOutputStream> classes = new HashMap<>();

        Store(JavaFileManager manager) {
            super(manager);
        }

        @Override
        public JavaFileObject getJavaFileForOutput(Location location, String name,
                JavaFileObject.Kind kind, FileObject sibling) {
            return new SimpleJavaFileObject(URI.create("mem:///" + name), kind) {
                @Override
                public OutputStream openOutputStream() {
                    ByteArrayOutputStream bytes = new ByteArrayOutputStream();
                    classes.put(name, bytes);
                    return bytes;
                }
            };
        }

        ClassLoader loader() {
            return new ClassLoader(JavacTest.class.getClassLoader()) {
                @Override
                protected Class<?> findClass(String name) throws ClassNotFoundException {
                    if (!classes.containsKey(name)) {
                        throw new ClassNotFoundException(name);
                    }
                    byte[] bytes = classes.get(name).toByteArray();
                    return defineClass(name, bytes, 0, bytes.length);
                }
            };
        }
    }

    private static void kindsAndValues(long seed, int size) throws Exception {
        RandomTexts source = texts(new Random(seed));
        List<String> texts = new ArrayList<>();
        Set<String> seen = new HashSet<>();
        for (int n = 0; n < 50 * size && texts.size() < size; n++) {
            String text = source.whole();
            String spaced = spaced(text);
            if (spaced != null && seen.add(text)) {
                MirrorDesk desk = desk(seed);
                Desks.work(desk, 0, text);
                if (isComparable(text, desk.look(0, 0), desk.look(0, 1))) {
                    texts.add(text);
                }
            }
        }
        Set<Integer> bad = faultyLines(texts, seed);
        List<String> good = new ArrayList<>();
        for (int n = 0; n < texts.size(); n++) {
            // javac 17 itself fails at (true?null:p).a
            boolean avoided = texts.get(n).contains("?") && texts.get(n).contains("null");
            if (!bad.contains(n) && !avoided) {
                good.add(texts.get(n));
            }
            compareTyping(texts.get(n), !bad.contains(n), seed);
        }
        compareValues(good, seed);
    }

    /** Whether Java must find the same: in C ? X : Y it relates all, by boxing and Object. */
    private static boolean isComparable(String text, int state, int kind) {
        boolean boxed = state == Desks.ILL_TYPED && text.contains("?");
        return state != Desks.ILL_FORMED && kind != Desks.NULL && !boxed;
    }

    private static void compareTyping(String text, boolean javaWellTyped, long seed) {
        MirrorDesk desk = desk(seed);
        boolean wellTyped = Desks.eval(desk, 0, text) != Desks.ILL_TYPED;
        Check.same("well typed: " + text, wellTyped, javaWellTyped);
    }

    private static Set<Integer> faultyLines(List<String> texts, long seed) throws IOException {
        DiagnosticCollector<JavaFileObject> faults = new DiagnosticCollector<>();
        try (Store store = new Store(COMPILER.getStandardFileManager(null, null, null))) {
            Source source = new Source("X", program(texts, seed));
            COMPILER.getTask(null, store, faults, List.of("-Xmaxerrs", "100000", "-Xlint:none"), null,
                    List.of(source)).call();
        }
        Set<Integer> bad = new HashSet<>();
        for (Diagnostic<? extends JavaFileObject> fault : faults.getDiagnostics()) {
            if (fault.getKind() == Diagnostic.Kind.ERROR) {
                bad.add((int) fault.getLineNumber() - 2);
            }
        }
        return bad;
    }

    private static void compareValues(List<String> texts, long seed) throws Exception {
        DiagnosticCollector<JavaFileObject> faults = new DiagnosticCollector<>();
        try (Store store = new Store(COMPILER.getStandardFileManager(null, null, null))) {
            Source source = new Source("X", program(texts, seed));
            boolean compiled = COMPILER.getTask(null, store, faults, List.of("-Xlint:none"), null,
                    List.of(source)).call();
            for (Diagnostic<? extends JavaFileObject> fault : faults.getDiagnostics()) {
                System.out.println(fault.getLineNumber() + ": " + fault.getMessage(null));
            }
            Check.isTrue("Java compiles the texts", compiled);
            if (!compiled) {
                return;
            }
            Class<?> program = store.loader().loadClass("X");
            for (int n = 0; n < texts.size(); n++) {
                long[] java = (long[]) program.getMethod("m" + n).invoke(null);
                compareValue(texts.get(n), java, seed);
            }
        }
    }

    /** Of Java: the kind (-2 if an exception was thrown), the exception and the value. */
    private static void compareValue(String text, long[] java, long seed) {
        MirrorDesk desk = desk(seed);
        if (Desks.work(desk, 0, text) == Desks.ILL_TYPED) {
            return;
        }
        // In Java a choice between a char and a small constant is a char.
        boolean charInJava = text.contains("?") && java[0] == Desks.CHAR && desk.look(0, 1) == Desks.INT;
        if (!charInJava && java[0] != -2) {
            Check.same("kind of " + text, desk.look(0, 1), java[0]);
        }
        Check.same("exception of " + text, desk.look(0, 2), java[1]);
        Check.same("value of " + text, desk.value(0), java[2]);
    }

    private static String program(List<String> texts, long seed) {
        StringBuilder program = new StringBuilder("public class X {" + frame(seed) + "\n");
        for (int n = 0; n < texts.size(); n++) {
            String java = spaced(texts.get(n));
            program.append("public static long[] m" + n + "(){long[] res={k(()->kind(" + java
                    + ")),0,0};try{res[2]=v(" + java + ");}"
                    + "catch(RuntimeException e){res[1]=x(e);}return res;}\n");
        }
        return program.append("}").toString();
    }

    /** Classes, variables and objects as those of desk(seed), on one line. */
    private static String frame(long seed) {
        StringBuilder frame = new StringBuilder();
        for (int type = 0; type < 6; type++) {
            frame.append("static class " + KINDS[4 + type]
                    + (PARENTS[type] < 0 ? "" : " extends " + KINDS[4 + PARENTS[type]]) + "{");
            for (int name = 0; name < 4; name++) {
                if (FIELDS[type][name] >= 0) {
                    frame.append(KINDS[FIELDS[type][name]] + " " + (char) ('a' + name) + ";");
                }
            }
            frame.append("}");
        }
        for (int kind = 0; kind < 17; kind++) {
            frame.append("static int kind(" + KINDS[kind] + " v){return " + kind + ";}");
            if (kind < 3) {
                frame.append("static long v(" + KINDS[kind] + " v){return v;}");
            } else if (kind == 3) {
                frame.append("static long v(boolean v){return v?1:0;}");
            } else {
                frame.append("static long v(" + KINDS[kind] + " v){return o(v);}");
            }
        }
        frame.append("static int k(java.util.function.IntSupplier s){try{return s.getAsInt();}"
                + "catch(RuntimeException e){return -2;}}");
        frame.append("static long o(Object v){for(int i=1;i<13;i++)if(all[i]==v)return i;return 0;}");
        frame.append("static int x(RuntimeException x){return x instanceof ArithmeticException?1:"
                + "x instanceof NullPointerException?2:x instanceof ArrayIndexOutOfBoundsException?3:4;}");
        for (int name = 0; name < 27; name++) {
            if (VARIABLES[name] >= 0) {
                frame.append("static " + KINDS[VARIABLES[name]] + " "
                        + (name == 26 ? "self" : (char) ('a' + name)) + ";");
            }
        }
        return frame + new Filling(seed).java();
    }

    private static MirrorDesk desk(long seed) {
        MirrorDesk desk = new MirrorDesk();
        for (int type = 0; type < 6; type++) {
            desk.addClass(PARENTS[type]);
        }
        for (int type = 0; type < 6; type++) {
            for (int name = 0; name < 4; name++) {
                if (FIELDS[type][name] >= 0) {
                    desk.addField(type, name, FIELDS[type][name]);
                }
            }
        }
        for (int name = 0; name < 27; name++) {
            if (VARIABLES[name] >= 0) {
                desk.addVariable(name, VARIABLES[name]);
            }
        }
        new Filling(seed).fill(desk);
        desk.run(false);
        return desk;
    }

    /** Objects and values made at random, alike for a desk and for Java. */
    private static final class Filling {
        private static final int[] OBJECTS = {4, 5, 6, 7, 8, 9, 10, 10, 11, 16, 5, 10};
        private static final int[] LENGTHS = {0, 0, 0, 0, 0, 0, 3, 5, 2, 3, 0, 0};
        private final Random random;
        private final StringBuilder java = new StringBuilder();
        private final MirrorDesk desk = new MirrorDesk();

        Filling(long seed) {
            random = new Random(seed);
        }

        String java() {
            fill(new MirrorDesk());
            return java.toString();
        }

        private boolean fits(int kind, int other) {
            for (int k = kind; k >= 4; k = k < 10 && PARENTS[k - 4] >= 0 ? PARENTS[k - 4] + 4 : -1) {
                if (k == other) {
                    return true;
                }
            }
            return false;
        }

        private long value(int kind) {
            long[] some = {0, 1, 2, 3, -1, 31, 65535, 2147483647L, -2147483648L};
            long v = random.nextInt(3) == 0 ? some[random.nextInt(9)] : random.nextInt(4);
            switch (kind) {
                case 0:
                    return v;
                case 1:
                    return random.nextInt(3) == 0 ? random.nextLong() : v;
                case 2:
                    return v & 65535;
                case 3:
                    return v & 1;
                default:
                    int object = random.nextInt(12);
                    for (int n = 0; n < 12 && !fits(OBJECTS[object], kind); n++) {
                        object = (object + 1) % 12;
                    }
                    return fits(OBJECTS[object], kind) && random.nextInt(5) != 0 ? object + 1 : 0;
            }
        }

        private String written(int kind, long v) {
            if (kind > 3) {
                return v == 0 ? "null" : "(" + KINDS[kind] + ")all[" + v + "]";
            }
            return kind == 3 ? v == 1 ? "true" : "false" : "(" + KINDS[kind] + ")(" + v + "L)";
        }

        void fill(MirrorDesk its) {
            java.append("static Object[] all=new Object[13];static{");
            for (int i = 0; i < 12; i++) {
                its.make(OBJECTS[i], LENGTHS[i]);
                String name = KINDS[OBJECTS[i]];
                java.append("all[" + (i + 1) + "]=new " + (OBJECTS[i] < 10 ? name + "()"
                        : name.replace("[]", "[" + LENGTHS[i] + "]")) + ";");
            }
            for (int name = 0; name < 27; name++) {
                if (VARIABLES[name] >= 0) {
                    long v = value(VARIABLES[name]);
                    its.setVariable(name, v);
                    java.append((name == 26 ? "self" : (char) ('a' + name)) + "="
                            + written(VARIABLES[name], v) + ";");
                }
            }
            for (int i = 0; i < 12; i++) {
                parts(its, i);
            }
            java.append("}");
        }

        private void parts(MirrorDesk its, int i) {
            int kind = OBJECTS[i];
            for (int n = 0; n < LENGTHS[i]; n++) {
                int element = kind == 10 ? 0 : kind - 7;
                long v = value(element);
                its.setPart(i + 1, n, v);
                java.append("((" + KINDS[kind] + ")all[" + (i + 1) + "])[" + n + "]="
                        + written(element, v) + ";");
            }
            for (int type = kind < 10 ? kind - 4 : -1; type >= 0; type = PARENTS[type]) {
                for (int name = 0; name < 4; name++) {
                    if (FIELDS[type][name] >= 0) {
                        long v = value(FIELDS[type][name]);
                        its.setPart(i + 1, name, v);
                        java.append("((" + KINDS[kind] + ")all[" + (i + 1) + "])." + (char) ('a' + name) + "="
                                + written(FIELDS[type][name], v) + ";");
                    }
                }
            }
        }
    }
}
