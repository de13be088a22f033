import java.util.ArrayList;
import java.util.Arrays;
import java.util.HashMap;
import java.util.HashSet;
import java.util.List;
import java.util.Map;
import java.util.Set;
import java.util.regex.Matcher;
import java.util.regex.Pattern;

/**
 * The document once more, written in another way than the program: trees that are worked out anew
 * from their roots, pieces that are texts. RandomRunsTest compares both.
 */
final class DeskModel {
    private static final Pattern TOKEN = Pattern.compile(
            "([A-Za-z]+)|(\\d+L?)|('[^'\\\\]')|(>>>|<<|>>|<=|>=|==|!=|&&|\\|\\||[()\\[\\].?:+*/%~!<>&^|-])");
    private static final List<List<String>> LEVELS = List.of(List.of("||"), List.of("&&"), List.of("|"),
            List.of("^"), List.of("&"), List.of("==", "!="), List.of("<", "<=", ">", ">=", "instanceof"),
            List.of("<<", ">>", ">>>"), List.of("+", "-"), List.of("*", "/", "%"));
    private static final List<String> TYPES =
            List.of("int", "long", "char", "boolean", "A", "B", "C", "D", "E", "F");

    /** A text that is no expression. */
    private static final class IllFormed extends RuntimeException {
        private static final long serialVersionUID = 1L;
    }

    /** An expression whose operands are not of the kinds that they may be. */
    private static final class IllTyped extends RuntimeException {
        private static final long serialVersionUID = 1L;
    }

    /** An exception of the language that is worked out. */
    private static final class Fault extends RuntimeException {
        private static final long serialVersionUID = 1L;
        private final int number;

        Fault(int itsNumber) {
            number = itsNumber;
        }
    }

    /** A piece that is needed and not known. */
    private static final class Need extends RuntimeException {
        private static final long serialVersionUID = 1L;
        private final String piece;

        Need(String itsPiece) {
            piece = itsPiece;
        }
    }

    private static final class Node {
        private final String sign;
        private final List<Node> parts;
        private int kind;

        Node(String itsSign, Node... itsParts) {
            sign = itsSign;
            parts = Arrays.asList(itsParts);
        }

        Node part(int i) {
            return parts.get(i);
        }
    }

    private static final class Sheet {
        private String text;
        private int state;
        private int kind = -1;
        private int exception;
        private long value;
        private String needed = "";
    }

    private static final class Request {
        private final String piece;
        private final int before;

        Request(String itsPiece, int itsBefore) {
            piece = itsPiece;
            before = itsBefore;
        }
    }

    private final List<Integer> parents = new ArrayList<>();
    private final Map<String, Integer> fieldKinds = new HashMap<>();
    private final Map<Integer, Integer> variableKinds = new HashMap<>();
    private final List<int[]> objects = new ArrayList<>();
    private final Map<String, Long> contents = new HashMap<>();
    private final Set<String> known = new HashSet<>();
    private final List<Request> requests = new ArrayList<>();
    private final Sheet[] sheets = {new Sheet(), new Sheet(), new Sheet(), new Sheet()};
    private final StringBuilder written = new StringBuilder();
    private int sent;
    private boolean stopped;
    private boolean everStopped;
    private boolean broken;

    // ---- the target

    int addClass(int parent) {
        if (everStopped || parents.size() == 6 || parent != -1 && !isType(parent)) {
            return -1;
        }
        parents.add(parent);
        return parents.size() - 1;
    }

    private boolean isType(int type) {
        return type >= 0 && type < parents.size();
    }

    private boolean isKind(int kind) {
        return kind >= 0 && kind < 4 || kind >= 4 && kind < 10 && isType(kind - 4) || kind == 10
                || kind >= 11 && kind < 17 && isType(kind - 11);
    }

    private Set<Integer> upwards(int type) {
        Set<Integer> all = new HashSet<>();
        for (int t = type; t >= 0; t = parents.get(t)) {
            all.add(t);
        }
        return all;
    }

    boolean addField(int type, int name, int kind) {
        if (everStopped || !isType(type) || name < 0 || name > 25 || !isKind(kind)) {
            return false;
        }
        for (int other = 0; other < parents.size(); other++) {
            if ((upwards(type).contains(other) || upwards(other).contains(type))
                    && fieldKinds.containsKey(other + "." + name)) {
                return false;
            }
        }
        fieldKinds.put(type + "." + name, kind);
        return true;
    }

    boolean addVariable(int name, int kind) {
        boolean good = !everStopped && name >= 0 && name <= 26 && isKind(kind)
                && (name < 26 || kind >= 4 && kind < 10) && !variableKinds.containsKey(name);
        if (good) {
            variableKinds.put(name, kind);
        }
        return good;
    }

    int make(int kind, int length) {
        if (stopped || objects.size() == 12 || kind < 4 || !isKind(kind)
                || kind >= 10 && (length < 0 || length > 5)) {
            return -1;
        }
        objects.add(new int[] {kind, length});
        return objects.size();
    }

    private int fieldKind(int kind, int name) {
        if (kind < 4 || kind > 9) {
            return -1;
        }
        for (int type : upwards(kind - 4)) {
            if (fieldKinds.containsKey(type + "." + name)) {
                return fieldKinds.get(type + "." + name);
            }
        }
        return -1;
    }

    private boolean fits(int kind, int other) {
        return kind == other || kind == 17 && other > 3
                || kind > 3 && kind < 10 && other > 3 && other < 10 && upwards(kind - 4).contains(other - 4);
    }

    private boolean isValue(int kind, long v) {
        switch (kind) {
            case 0:
                return v >= Integer.MIN_VALUE && v <= Integer.MAX_VALUE;
            case 1:
                return true;
            case 2:
                return v >= 0 && v <= 65535;
            case 3:
                return v >= 0 && v <= 1;
            default:
                return v == 0 || v > 0 && v <= objects.size() && fits(objects.get((int) v - 1)[0], kind);
        }
    }

    boolean setVariable(int name, long v) {
        if (stopped || !variableKinds.containsKey(name) || !isValue(variableKinds.get(name), v)) {
            return false;
        }
        contents.put("0 " + name + " 0", v);
        return true;
    }

    boolean setPart(int object, int part, long v) {
        if (stopped || object < 1 || object > objects.size()) {
            return false;
        }
        int[] it = objects.get(object - 1);
        boolean array = it[0] >= 10;
        int kind = array ? it[0] == 10 ? 0 : it[0] - 7 : fieldKind(it[0], part);
        if (array && (part < 0 || part >= it[1]) || kind < 0 || !isValue(kind, v)) {
            return false;
        }
        contents.put((array ? "2 " : "1 ") + object + " " + part, v);
        return true;
    }

    boolean run(boolean on) {
        if (stopped != on) {
            return false;
        }
        stopped = !on;
        everStopped = true;
        if (on) {
            endAll(8);
        }
        return true;
    }

    boolean line(boolean on) {
        if (broken != on) {
            return false;
        }
        broken = !on;
        if (broken) {
            endAll(7);
        }
        return true;
    }

    private void endAll(int state) {
        known.clear();
        requests.clear();
        for (Sheet sheet : sheets) {
            if (sheet.state == 1) {
                sheet.state = state;
            }
        }
    }

    // ---- evaluations and requests

    boolean put(char c) {
        if (c < 32 || c > 126 || written.length() == 40) {
            return false;
        }
        written.append(c);
        return true;
    }

    int eval(int e) {
        if (e < 0 || e > 3 || !stopped) {
            return -1;
        }
        sheets[e].text = written.toString();
        written.setLength(0);
        return again(e);
    }

    int again(int e) {
        if (e < 0 || e > 3 || !stopped || sheets[e].text == null) {
            return -1;
        }
        Sheet sheet = sheets[e];
        sheet.kind = -1;
        sheet.exception = 0;
        try {
            Node root = new Reading(sheet.text).whole();
            check(root);
            sheet.kind = root.kind;
            goOn(sheet);
        } catch (IllFormed none) {
            sheet.state = 4;
        } catch (IllTyped none) {
            sheet.state = 5;
        }
        return sheet.state;
    }

    private void goOn(Sheet sheet) {
        Node root = new Reading(sheet.text).whole();
        check(root);
        try {
            sheet.value = work(root);
            sheet.state = 2;
        } catch (Fault fault) {
            sheet.state = 3;
            sheet.exception = fault.number;
        } catch (Need need) {
            sheet.state = broken ? 7 : 1;
            sheet.needed = need.piece;
            if (!broken && requests.stream().noneMatch(r -> r.piece.equals(need.piece))) {
                requests.add(new Request(need.piece, sent++));
            }
        }
    }

    int request(int k, int what) {
        if (k < 0 || k >= requests.size() || what < 0 || what > 3) {
            return -1;
        }
        Request request = requests.get(k);
        return what == 3 ? request.before : Integer.parseInt(request.piece.split(" ")[what]);
    }

    private List<Sheet> waitingFor(String piece) {
        List<Sheet> all = new ArrayList<>();
        for (Sheet sheet : sheets) {
            if (sheet.state == 1 && sheet.needed.equals(piece)) {
                all.add(sheet);
            }
        }
        return all;
    }

    int answer(int k) {
        if (k < 0 || k >= requests.size()) {
            return -1;
        }
        String piece = requests.remove(k).piece;
        known.add(piece);
        List<Sheet> waiting = waitingFor(piece);
        for (Sheet sheet : waiting) {
            goOn(sheet);
        }
        return waiting.size();
    }

    int refuse(int k) {
        if (k < 0 || k >= requests.size()) {
            return -1;
        }
        List<Sheet> waiting = waitingFor(requests.remove(k).piece);
        for (Sheet sheet : waiting) {
            sheet.state = 6;
        }
        return waiting.size();
    }

    int look(int e, int what) {
        if (e < 0 || e > 3 || what < 0 || what > 2) {
            return -1;
        }
        return what == 0 ? sheets[e].state : what == 1 ? sheets[e].kind : sheets[e].exception;
    }

    long value(int e) {
        return e >= 0 && e < 4 && sheets[e].state == 2 ? sheets[e].value : 0;
    }

    int count(int what) {
        int[] counts = {written.length(), requests.size(), sent, known.size()};
        return what < 0 || what > 3 ? -1 : counts[what];
    }

    // ---- reading

    private static final class Reading {
        private final List<String> tokens = new ArrayList<>();
        private int at;

        Reading(String text) {
            Matcher matcher = TOKEN.matcher(text);
            int from = 0;
            while (from < text.length()) {
                if (text.charAt(from) == ' ') {
                    from++;
                    continue;
                }
                if (!matcher.region(from, text.length()).lookingAt()) {
                    throw new IllFormed();
                }
                String token = matcher.group();
                from = matcher.end();
                boolean letterBehind = from < text.length() && Character.isLetter(text.charAt(from));
                if (matcher.group(2) != null && letterBehind) {
                    throw new IllFormed();
                }
                checkToken(token, matcher);
                tokens.add(token);
            }
            tokens.add("");
            checkLimits();
        }

        private static void checkToken(String token, Matcher matcher) {
            boolean good = true;
            if (matcher.group(1) != null) {
                good = token.matches("[a-zA-F]|true|false|null|this|int|long|char|boolean|instanceof|length");
            } else if (matcher.group(2) != null) {
                good = token.endsWith("L") ? token.length() <= 19
                        : token.length() <= 10 && Long.parseLong(token) <= 2147483648L;
            }
            if (!good) {
                throw new IllFormed();
            }
        }

        /** Limits are looked at before the grammar: beyond them it is ill formed in any case. */
        private void checkLimits() {
            int open = 0;
            int choices = 0;
            boolean inCast = false;
            for (int i = 0; i < tokens.size() - 1; i++) {
                String token = tokens.get(i);
                choices += token.equals("?") ? 1 : 0;
                if (token.equals("(") && TYPES.contains(tokens.get(i + 1))) {
                    inCast = true;
                } else if (inCast) {
                    inCast = !token.equals(")");
                } else if (token.equals("(") || token.equals("[")) {
                    open++;
                } else if (token.equals(")") || token.equals("]")) {
                    open--;
                }
                if (open > 6) {
                    throw new IllFormed();
                }
            }
            if (choices > 4 || tokens.size() > 25) {
                throw new IllFormed();
            }
        }

        private String next() {
            at++;
            return tokens.get(Math.min(at - 1, tokens.size() - 1));
        }

        private boolean takes(String token) {
            boolean there = tokens.get(Math.min(at, tokens.size() - 1)).equals(token);
            at += there ? 1 : 0;
            return there;
        }

        private void must(boolean good) {
            if (!good) {
                throw new IllFormed();
            }
        }

        Node whole() {
            at = 0;
            Node root = choice();
            must(at == tokens.size() - 1);
            checkLarge(root, false);
            return root;
        }

        private void checkLarge(Node node, boolean behindMinus) {
            must(!node.sign.equals("#2147483648") || behindMinus);
            for (Node part : node.parts) {
                checkLarge(part, node.sign.equals("0-"));
            }
        }

        private Node choice() {
            Node condition = level(0);
            if (!takes("?")) {
                return condition;
            }
            Node one = choice();
            must(takes(":"));
            return new Node("?", condition, one, choice());
        }

        private Node level(int n) {
            if (n == LEVELS.size()) {
                return unary();
            }
            Node left = level(n + 1);
            while (LEVELS.get(n).contains(tokens.get(at))) {
                String sign = next();
                if (sign.equals("instanceof")) {
                    String type = next();
                    must(TYPES.indexOf(type) > 3);
                    left = new Node("is" + TYPES.indexOf(type), left);
                } else {
                    left = new Node(sign, left, level(n + 1));
                }
            }
            return left;
        }

        private Node unary() {
            for (String sign : List.of("+", "-", "~", "!")) {
                if (takes(sign)) {
                    return new Node("0" + sign, unary());
                }
            }
            if (tokens.get(at).equals("(") && TYPES.contains(tokens.get(at + 1))) {
                next();
                int kind = TYPES.indexOf(next());
                if (takes("[")) {
                    must(takes("]") && (kind == 0 || kind > 3));
                    kind = kind == 0 ? 10 : kind + 7;
                }
                must(takes(")"));
                return new Node("to" + kind, unary());
            }
            return operand();
        }

        private Node operand() {
            Node node = first();
            while (true) {
                if (takes(".")) {
                    String name = next();
                    must(name.matches("[a-z]|length"));
                    node = new Node("." + name, node);
                } else if (takes("[")) {
                    node = new Node("[", node, choice());
                    must(takes("]"));
                } else {
                    return node;
                }
            }
        }

        private Node first() {
            if (takes("(")) {
                Node inner = new Node("()", choice());
                must(takes(")"));
                return inner;
            }
            String token = next();
            if (token.matches("[a-z]|this")) {
                return new Node("$" + token);
            }
            must(token.matches("\\d.*|'.*|true|false|null"));
            return new Node("#" + token);
        }
    }

    // ---- kinds

    private static boolean isNumeric(int kind) {
        return kind >= 0 && kind < 3;
    }

    private int needed(boolean good, int kind) {
        if (!good || kind < 0) {
            throw new IllTyped();
        }
        return kind;
    }

    private boolean areRelated(int one, int other) {
        return one > 3 && other > 3 && (fits(one, other) || fits(other, one));
    }

    private void check(Node node) {
        for (Node part : node.parts) {
            check(part);
        }
        int a = node.parts.isEmpty() ? -1 : node.part(0).kind;
        int b = node.parts.size() < 2 ? -1 : node.part(1).kind;
        node.kind = kindOf(node, a, b);
    }

    private int kindOf(Node node, int a, int b) {
        boolean numeric = isNumeric(a) && isNumeric(b);
        int common = a == 1 || b == 1 ? 1 : 0;
        String sign = node.sign;
        if (sign.startsWith("#")) {
            return constantKind(sign.substring(1));
        }
        if (sign.startsWith("$")) {
            return needed(true, variableKinds.getOrDefault(nameOf(sign), -1));
        }
        if (sign.startsWith(".")) {
            return sign.equals(".length") ? needed(a >= 10 && a < 17, 0)
                    : needed(true, fieldKind(a, sign.charAt(1) - 'a'));
        }
        if (sign.startsWith("is")) {
            int kind = Integer.parseInt(sign.substring(2));
            return needed(isKind(kind) && areRelated(a, kind), 3);
        }
        if (sign.startsWith("to")) {
            int kind = Integer.parseInt(sign.substring(2));
            return needed(isKind(kind) && (isNumeric(a) && isNumeric(kind) || a == 3 && kind == 3
                    || areRelated(a, kind)), kind);
        }
        switch (sign) {
            case "()":
                return a;
            case "0+": case "0-": case "0~":
                return needed(isNumeric(a), a == 1 ? 1 : 0);
            case "0!":
                return needed(a == 3, 3);
            case "*": case "/": case "%": case "+": case "-":
                return needed(numeric, common);
            case "<<": case ">>": case ">>>":
                return needed(numeric, a == 1 ? 1 : 0);
            case "<": case "<=": case ">": case ">=":
                return needed(numeric, 3);
            case "==": case "!=":
                return needed(numeric || a == 3 && b == 3 || areRelated(a, b), 3);
            case "&": case "^": case "|":
                return a == 3 && b == 3 ? 3 : needed(numeric, common);
            case "&&": case "||":
                return needed(a == 3 && b == 3, 3);
            case "[":
                return needed(a >= 10 && a < 17 && (b == 0 || b == 2), a == 10 ? 0 : a - 7);
            default:
                return choiceKind(a, b, node.part(2).kind);
        }
    }

    private int choiceKind(int condition, int x, int y) {
        needed(condition == 3, 3);
        if (x == y) {
            return x;
        }
        if (isNumeric(x) && isNumeric(y)) {
            return x == 1 || y == 1 ? 1 : 0;
        }
        needed(areRelated(x, y), 0);
        return fits(x, y) ? y : x;
    }

    private static int constantKind(String constant) {
        if (constant.equals("null")) {
            return 17;
        }
        if (constant.equals("true") || constant.equals("false")) {
            return 3;
        }
        return constant.startsWith("'") ? 2 : constant.endsWith("L") ? 1 : 0;
    }

    private static int nameOf(String sign) {
        return sign.equals("$this") ? 26 : sign.charAt(1) - 'a';
    }

    // ---- values

    private long piece(int sort, long of, long part) {
        String piece = sort + " " + of + " " + part;
        if (!known.contains(piece)) {
            throw new Need(piece);
        }
        if (sort > 2) {
            return objects.get((int) of - 1)[sort == 3 ? 1 : 0];
        }
        return contents.getOrDefault(piece, 0L);
    }

    private long work(Node node) {
        String sign = node.sign;
        if (sign.startsWith("#")) {
            return constant(sign.substring(1));
        }
        if (sign.startsWith("$")) {
            return piece(0, nameOf(sign), 0);
        }
        long a = work(node.part(0));
        if (sign.startsWith(".")) {
            if (a == 0) {
                throw new Fault(2);
            }
            return sign.equals(".length") ? piece(3, a, 0) : piece(1, a, sign.charAt(1) - 'a');
        }
        if (sign.startsWith("is")) {
            int kind = Integer.parseInt(sign.substring(2));
            return a != 0 && (fits(node.part(0).kind, kind) || fits((int) piece(4, a, 0), kind)) ? 1 : 0;
        }
        if (sign.startsWith("to")) {
            return cast(node, a);
        }
        switch (sign) {
            case "()":
                return a;
            case "?":
                return work(node.part(a == 1 ? 1 : 2));
            case "&&":
                return a == 0 ? 0 : work(node.part(1));
            case "||":
                return a == 1 ? 1 : work(node.part(1));
            case "0+":
                return a;
            case "0-":
                return node.kind == 0 ? -(int) a : -a;
            case "0~":
                return -1 - a;
            case "0!":
                return a == 0 ? 1 : 0;
            case "[":
                return element(a, work(node.part(1)));
            default:
                return two(node, a, work(node.part(1)));
        }
    }

    private static long constant(String constant) {
        switch (constant) {
            case "null": case "false":
                return 0;
            case "true":
                return 1;
            default:
                return constant.startsWith("'") ? constant.charAt(1)
                        : Long.parseLong(constant.replace("L", ""));
        }
    }

    private long cast(Node node, long a) {
        switch (node.kind) {
            case 0:
                return (int) a;
            case 1: case 3:
                return a;
            case 2:
                return a & 65535;
            default:
                if (a != 0 && !fits(node.part(0).kind, node.kind) && !fits((int) piece(4, a, 0), node.kind)) {
                    throw new Fault(4);
                }
                return a;
        }
    }

    private long element(long array, long index) {
        if (array == 0) {
            throw new Fault(2);
        }
        long length = piece(3, array, 0);
        if (index < 0 || index >= length) {
            throw new Fault(3);
        }
        return piece(2, array, index);
    }

    private long two(Node node, long a, long b) {
        if (b == 0 && (node.sign.equals("/") || node.sign.equals("%"))) {
            throw new Fault(1);
        }
        if (node.kind == 0) {
            return ints(node.sign, (int) a, b);
        }
        if (node.kind == 1) {
            return longs(node.sign, a, b);
        }
        boolean holds;
        switch (node.sign) {
            case "<": holds = a < b; break;
            case "<=": holds = a <= b; break;
            case ">": holds = a > b; break;
            case ">=": holds = a >= b; break;
            case "==": holds = a == b; break;
            case "&": holds = a + b == 2; break;
            case "|": holds = a + b > 0; break;
            default: holds = a != b; break;
        }
        return holds ? 1 : 0;
    }

    private static int ints(String sign, int a, long right) {
        int b = (int) right;
        switch (sign) {
            case "*": return a * b;
            case "/": return a / b;
            case "%": return a % b;
            case "+": return a + b;
            case "-": return a - b;
            case "&": return a & b;
            case "^": return a ^ b;
            case "|": return a | b;
            case "<<": return a << right;
            case ">>": return a >> right;
            default: return a >>> right;
        }
    }

    private static long longs(String sign, long a, long b) {
        switch (sign) {
            case "*": return a * b;
            case "/": return a / b;
            case "%": return a % b;
            case "+": return a + b;
            case "-": return a - b;
            case "&": return a & b;
            case "^": return a ^ b;
            case "|": return a | b;
            case "<<": return a << b;
            case ">>": return a >> b;
            default: return a >>> b;
        }
    }
}
