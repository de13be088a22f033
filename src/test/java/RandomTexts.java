import java.util.Random;

/** Texts of expressions, made at random: most of them well typed, some with a fault or two. */
final class RandomTexts {
    private static final String ALPHABET =
            " abcdefghijzABCDEFGL0123456789()[].?:+-*/%~!<>=&|^'\\\"#_,";
    private final Random random;
    // The kinds of the variables a, b .. and of this that texts are made for; -1 for none.
    private final int[] variables;
    // By class, the kinds of its fields a, b ..
    private final int[][] fields;

    RandomTexts(Random itsRandom, int[] itsVariables, int[][] itsFields) {
        random = itsRandom;
        variables = itsVariables;
        fields = itsFields;
    }

    String next() {
        if (random.nextInt(20) == 0) {
            return garbage();
        }
        String text = whole();
        for (int n = random.nextInt(6); n == 0; n = random.nextInt(3)) {
            text = damaged(text);
        }
        return text.length() > 40 ? text.substring(0, 40) : text;
    }

    /** A text that stays whole. */
    String whole() {
        for (int n = 0; n < 100; n++) {
            String text = expression(anyKind(), 1 + random.nextInt(5));
            if (text.length() <= 40) {
                return text;
            }
        }
        return "1";
    }

    private int anyKind() {
        return random.nextInt(4) == 0 ? 4 + random.nextInt(10) : random.nextInt(4);
    }

    private String garbage() {
        StringBuilder text = new StringBuilder();
        for (int n = random.nextInt(8); n > 0; n--) {
            text.append(ALPHABET.charAt(random.nextInt(ALPHABET.length())));
        }
        return text.toString();
    }

    private String damaged(String text) {
        int at = random.nextInt(text.length() + 1);
        String sign = String.valueOf(ALPHABET.charAt(random.nextInt(ALPHABET.length())));
        switch (random.nextInt(3)) {
            case 0:
                return text.substring(0, at) + sign + text.substring(at);
            case 1:
                return text.substring(0, at) + text.substring(Math.min(at + 1, text.length()));
            default:
                return text.substring(0, at) + sign + text.substring(Math.min(at + 1, text.length()));
        }
    }

    private String space() {
        return random.nextInt(12) == 0 ? " " : "";
    }

    private String pick(String... all) {
        return all[random.nextInt(all.length)];
    }

    private String number() {
        return pick("0", "1", "2", "3", "7", "31", "33", "65535", "65536", "2147483647", "-2147483648",
                "- 2147483648", "007", "1000000007");
    }

    private String expression(int kind, int depth) {
        if (random.nextInt(40) == 0) {
            return leaf(anyKind());
        }
        if (depth <= 0 || random.nextInt(5) == 0) {
            return leaf(kind);
        }
        if (random.nextInt(9) == 0) {
            return operand(3, depth) + "?" + expression(kind, depth - 1) + space() + ":"
                    + expression(kind, depth - 1);
        }
        switch (kind) {
            case 0:
            case 1:
            case 2:
                return numeric(kind, depth);
            case 3:
                return bool(depth);
            default:
                return reference(kind, depth);
        }
    }

    private String operand(int kind, int depth) {
        String text = expression(kind, depth - 1);
        return random.nextInt(3) == 0 ? "(" + text + ")" : text;
    }

    private String numeric(int kind, int depth) {
        int wide = random.nextInt(3);
        switch (random.nextInt(8)) {
            case 0:
                return "(" + pick("int", "long", "char") + ")" + operand(wide, depth);
            case 1:
                return pick("+", "-", "~", "- ") + operand(kind, depth);
            case 2:
                return operand(10, depth) + (kind == 0 && random.nextBoolean() ? ".length"
                        : "[" + expression(random.nextInt(5) == 0 ? 2 : 0, depth - 1) + "]");
            case 3:
                return part(kind, depth);
            case 4:
                return operand(kind, depth) + pick("<<", ">>", ">>>") + operand(wide, depth);
            default:
                return operand(kind, depth) + space() + pick("+", "-", "*", "/", "%", "&", "|", "^")
                        + space() + operand(wide, depth);
        }
    }

    private String bool(int depth) {
        int wide = random.nextInt(3);
        int type = 4 + random.nextInt(6);
        switch (random.nextInt(8)) {
            case 0:
                return "!" + operand(3, depth);
            case 1:
                return operand(type, depth) + " instanceof " + (char) ('A' + random.nextInt(6));
            case 2:
                return operand(type, depth) + pick("==", "!=") + operand(type, depth);
            case 3:
                return part(3, depth);
            case 4:
            case 5:
                return operand(wide, depth) + pick("<", "<=", ">", ">=", "==", "!=")
                        + operand(random.nextInt(3), depth);
            default:
                return operand(3, depth) + space() + pick("&&", "||", "&", "|", "^", "==", "!=")
                        + operand(3, depth);
        }
    }

    private String reference(int kind, int depth) {
        String type = kind == 10 ? "int" : String.valueOf((char) ('A' + (kind - 4) % 7));
        switch (random.nextInt(4)) {
            case 0:
                return "(" + type + (kind >= 10 ? "[]" : "") + ")"
                        + operand(kind < 10 ? 4 + random.nextInt(3) : kind, depth);
            case 1:
                return kind < 10 ? operand(kind + 7, depth) + "[" + expression(0, depth - 1) + "]"
                        : part(kind, depth);
            default:
                return part(kind, depth);
        }
    }

    /** A field of this kind of any class that has one. */
    private String part(int kind, int depth) {
        int type = random.nextInt(fields.length);
        for (int n = 0; n < fields.length; n++) {
            for (int name = 0; name < fields[type].length; name++) {
                if (fields[type][name] == kind) {
                    String object = leaf(4 + type);
                    return (random.nextBoolean() ? object : "(" + expression(4 + type, depth - 1) + ")")
                            + "." + (char) ('a' + name);
                }
            }
            type = (type + 1) % fields.length;
        }
        return leaf(kind);
    }

    private String leaf(int kind) {
        int start = random.nextInt(27);
        if (random.nextInt(5) != 0) {
            for (int n = 0; n < 27; n++) {
                int name = (start + n) % 27;
                if (variables[name] == kind) {
                    return name == 26 ? "this" : String.valueOf((char) ('a' + name));
                }
            }
        }
        switch (kind) {
            case 0:
                return number();
            case 1:
                return pick("0L", "1L", "5L", "2147483648L", "999999999999999999L");
            case 2:
                return pick("'a'", "' '", "'~'", "'('", "'0'");
            case 3:
                return pick("true", "false");
            default:
                return "null";
        }
    }
}
