/** The document's TYPES (promises 11 and 16): every sign over operands of every kind. */
public final class TypesTest {
    private static final int NONE = -1;
    // Operands and their kinds; B extends A, C is apart, D extends B.
    private static final String[] OPERANDS =
        {"a", "b", "c", "d", "e", "f", "g", "h", "i", "j", "k", "null", "this", "x"};
    private static final int[] KINDS = {Desks.INT, Desks.LONG, Desks.CHAR, Desks.BOOLEAN, Desks.A,
        Desks.B, Desks.C, Desks.D, Desks.INTS, Desks.ARRAY_OF_A, Desks.ARRAY_OF_B, Desks.NULL, Desks.B,
        NONE};

    private TypesTest() {
    }

    public static void main(String[] args) {
        operands();
        before();
        between();
        choices();
        casts();
        instanceofs();
        partsOfOperands();
        inherited();
        whereverItStands();
        whatIsNotThere();
        Check.end();
    }

    private static MirrorDesk desk() {
        MirrorDesk desk = new MirrorDesk();
        desk.addClass(-1);
        desk.addClass(0);
        desk.addClass(-1);
        desk.addClass(1);
        desk.addField(0, 0, Desks.INT);
        desk.addField(1, 1, Desks.CHAR);
        desk.addField(2, 2, Desks.ARRAY_OF_B);
        desk.addField(3, 3, Desks.D);
        for (int i = 0; i < 11; i++) {
            desk.addVariable(i, KINDS[i]);
        }
        desk.addVariable(26, Desks.B);
        desk.run(false);
        return desk;
    }

    private static void kind(String text, int due) {
        MirrorDesk desk = desk();
        int state = Desks.eval(desk, 0, text);
        Check.same("kind of " + text, desk.look(0, 1), due);
        Check.same("ill typed: " + text, state == Desks.ILL_TYPED, due == NONE);
        Check.isTrue("well formed: " + text, state != Desks.ILL_FORMED);
    }

    private static boolean isNumeric(int kind) {
        return kind == Desks.INT || kind == Desks.LONG || kind == Desks.CHAR;
    }

    private static boolean isA(int kind, int other) {
        return kind == other || other == Desks.A && (kind == Desks.B || kind == Desks.D)
                || other == Desks.B && kind == Desks.D;
    }

    private static boolean fits(int kind, int other) {
        return isA(kind, other) || kind == Desks.NULL && other > Desks.BOOLEAN;
    }

    private static boolean areRelated(int one, int other) {
        return one > Desks.BOOLEAN && other > Desks.BOOLEAN && (fits(one, other) || fits(other, one));
    }

    private static int common(int one, int other) {
        if (!isNumeric(one) || !isNumeric(other)) {
            return NONE;
        }
        return one == Desks.LONG || other == Desks.LONG ? Desks.LONG : Desks.INT;
    }

    private static void operands() {
        for (int i = 0; i < OPERANDS.length; i++) {
            kind(OPERANDS[i], KINDS[i]);
            kind("(" + OPERANDS[i] + ")", KINDS[i]);
        }
        kind("1", Desks.INT);
        kind("1L", Desks.LONG);
        kind("'1'", Desks.CHAR);
        kind("true", Desks.BOOLEAN);
        kind("false", Desks.BOOLEAN);
        MirrorDesk noThis = Desks.stopped();
        Check.same("this that is not there", Desks.eval(noThis, 0, "this"), Desks.ILL_TYPED);
    }

    private static void before() {
        for (int i = 0; i < OPERANDS.length; i++) {
            for (char sign : "+-~".toCharArray()) {
                kind(sign + OPERANDS[i], common(KINDS[i], Desks.INT));
            }
            kind("!" + OPERANDS[i], KINDS[i] == Desks.BOOLEAN ? Desks.BOOLEAN : NONE);
        }
    }

    private static int between(String sign, int left, int right) {
        int common = common(left, right);
        boolean booleans = left == Desks.BOOLEAN && right == Desks.BOOLEAN;
        switch (sign) {
            case "*": case "/": case "%": case "+": case "-":
                return common;
            case "<<": case ">>": case ">>>":
                return common == NONE ? NONE : common(left, Desks.INT);
            case "<": case "<=": case ">": case ">=":
                return common == NONE ? NONE : Desks.BOOLEAN;
            case "==": case "!=":
                return common != NONE || booleans || areRelated(left, right) ? Desks.BOOLEAN : NONE;
            case "&": case "^": case "|":
                return booleans ? Desks.BOOLEAN : common;
            default:
                return booleans ? Desks.BOOLEAN : NONE;
        }
    }

    private static void between() {
        String[] signs = {"*", "/", "%", "+", "-", "<<", ">>", ">>>", "<", "<=", ">", ">=", "==", "!=",
            "&", "^", "|", "&&", "||"};
        for (String sign : signs) {
            for (int i = 0; i < OPERANDS.length; i++) {
                for (int j = 0; j < OPERANDS.length; j++) {
                    kind(OPERANDS[i] + sign + OPERANDS[j], between(sign, KINDS[i], KINDS[j]));
                }
            }
        }
    }

    private static int chosen(int one, int other) {
        if (one == other) {
            return one;
        }
        if (common(one, other) != NONE) {
            return common(one, other);
        }
        if (!areRelated(one, other)) {
            return NONE;
        }
        return fits(one, other) ? other : one;
    }

    private static void choices() {
        for (int i = 0; i < OPERANDS.length; i++) {
            for (int j = 0; j < OPERANDS.length; j++) {
                kind("d?" + OPERANDS[i] + ":" + OPERANDS[j], chosen(KINDS[i], KINDS[j]));
            }
            kind(OPERANDS[i] + "?1:2", KINDS[i] == Desks.BOOLEAN ? Desks.INT : NONE);
        }
        kind("d?'a':1", Desks.INT);
        kind("true?'a':1", Desks.INT);
        kind("d?'a':'b'", Desks.CHAR);
        kind("d?1:2L", Desks.LONG);
        kind("d?null:null", Desks.NULL);
        kind("d?null:d?e:f", Desks.A);
        kind("d?null:1", NONE);
        kind("d?(d?f:null):h", Desks.B);
        kind("(d?null:null)==null", Desks.BOOLEAN);
    }

    private static void casts() {
        String[] names = {"int", "long", "char", "boolean", "A", "B", "C", "D", "int[]", "A[]", "B[]"};
        for (int i = 0; i < names.length; i++) {
            for (int j = 0; j < OPERANDS.length; j++) {
                boolean good = isNumeric(KINDS[i]) && isNumeric(KINDS[j])
                        || KINDS[i] == Desks.BOOLEAN && KINDS[j] == Desks.BOOLEAN
                        || areRelated(KINDS[i], KINDS[j]);
                kind("(" + names[i] + ")" + OPERANDS[j], good ? KINDS[i] : NONE);
            }
        }
    }

    private static void instanceofs() {
        String[] names = {"A", "B", "C", "D"};
        for (int i = 0; i < names.length; i++) {
            for (int j = 0; j < OPERANDS.length; j++) {
                boolean good = areRelated(KINDS[j], Desks.A + i);
                kind(OPERANDS[j] + " instanceof " + names[i], good ? Desks.BOOLEAN : NONE);
            }
        }
    }

    private static void partsOfOperands() {
        for (int i = 0; i < OPERANDS.length; i++) {
            boolean array = KINDS[i] >= Desks.INTS && KINDS[i] < Desks.NULL;
            int element = KINDS[i] == Desks.INTS ? Desks.INT : KINDS[i] - 7;
            kind(OPERANDS[i] + ".length", array ? Desks.INT : NONE);
            for (int j = 0; j < OPERANDS.length; j++) {
                boolean index = KINDS[j] == Desks.INT || KINDS[j] == Desks.CHAR;
                kind(OPERANDS[i] + "[" + OPERANDS[j] + "]", array && index ? element : NONE);
            }
        }
        kind("j[0].a", Desks.INT);
        kind("k[0].b", Desks.CHAR);
        kind("j[0].b", NONE);
        kind("h.length.a", NONE);
    }

    private static void inherited() {
        int[][] due = {
            {Desks.INT, NONE, NONE, NONE},
            {Desks.INT, Desks.CHAR, NONE, NONE},
            {NONE, NONE, Desks.ARRAY_OF_B, NONE},
            {Desks.INT, Desks.CHAR, NONE, Desks.D}};
        for (int type = 0; type < 4; type++) {
            for (int field = 0; field < 4; field++) {
                kind((char) ('e' + type) + "." + (char) ('a' + field), due[type][field]);
            }
        }
        kind("this.a", Desks.INT);
        kind("this.b", Desks.CHAR);
        kind("this.d", NONE);
        kind("((D)this).d.d.b", Desks.CHAR);
        kind("g.c[0].a", Desks.INT);
        kind("(d?e:h).a", Desks.INT);
        kind("(d?e:h).d", NONE);
    }

    private static void whereverItStands() {
        kind("true||z", NONE);
        kind("false&&1", NONE);
        kind("true?1:z", NONE);
        kind("false?!1:2", NONE);
        kind("1/0+(true?1:null.a)", NONE);
        kind("null==null||h.length", NONE);
        kind("i[1==1]", NONE);
        kind("(1<2<3)==true", NONE);
        kind("-(a==1)", NONE);
        // A text that is no expression at all is ill formed, whatever its kinds.
        MirrorDesk desk = desk();
        Check.same("no expression", Desks.eval(desk, 0, "z+"), Desks.ILL_FORMED);
    }

    private static void whatIsNotThere() {
        kind("(E)null", NONE);
        kind("(F)null", NONE);
        kind("(E[])null", NONE);
        kind("(D[])null", Desks.ARRAY_OF_B + 2);
        kind("null instanceof E", NONE);
        kind("e instanceof F", NONE);
        kind("e.z", NONE);
        kind("z.a", NONE);
        kind("z==z", NONE);
        MirrorDesk bare = Desks.stopped();
        Check.same("no class A", Desks.eval(bare, 0, "(A)null"), Desks.ILL_TYPED);
        Check.same("arrays of ints are always", Desks.eval(bare, 0, "(int[])null"), Desks.VALUE);
        Check.same("their kind", bare.look(0, 1), Desks.INTS);
    }
}
