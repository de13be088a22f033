/** The document's VALUES (promises 11, 16 and 17): what expressions come to, and their exceptions. */
public final class ValuesTest {
    private static final int[] INTS = {0, 1, -1, 2, 5, -7, 31, 32, 33, 65535, 65536, 2147483647,
        -2147483647, -2147483648};
    private static final long[] LONGS = {0, 1, -1, 3, -9, 63, 64, 65, 2147483648L, -2147483649L,
        4294967296L, 6148914691236517205L, Long.MAX_VALUE, Long.MIN_VALUE};
    private static final char[] CHARS = {0, 1, 2, 'a', 32768, 65535};

    private ValuesTest() {
    }

    public static void main(String[] args) {
        twoInts();
        twoLongs();
        intAndLong();
        chars();
        before();
        casts();
        booleans();
        whatBindsMore();
        order();
        exceptions();
        exceptionsOfParts();
        castsOfReferences();
        instanceofs();
        references();
        Check.end();
    }

    /** A stopped desk with variables a, b .. of the kinds and values told. */
    private static MirrorDesk desk(int[] kinds, long... values) {
        MirrorDesk desk = new MirrorDesk();
        for (int i = 0; i < kinds.length; i++) {
            desk.addVariable(i, kinds[i]);
            Check.isTrue("set", desk.setVariable(i, values[i]));
        }
        desk.run(false);
        return desk;
    }

    private static void value(MirrorDesk desk, String text, long due) {
        Check.same("state of " + text, Desks.work(desk, 0, text), Desks.VALUE);
        Check.same("value of " + text, desk.value(0), due);
        Check.same("no exception of " + text, desk.look(0, 2), 0);
    }

    private static void exception(MirrorDesk desk, String text, int due) {
        Check.same("state of " + text, Desks.work(desk, 0, text), Desks.EXCEPTION);
        Check.same("exception of " + text, desk.look(0, 2), due);
        Check.same("no value of " + text, desk.value(0), 0);
        Check.isTrue("a kind of " + text, desk.look(0, 1) >= 0);
    }

    private static void twoInts() {
        int[] kinds = {Desks.INT, Desks.INT};
        for (int a : INTS) {
            for (int b : INTS) {
                MirrorDesk desk = desk(kinds, a, b);
                value(desk, "a*b", a * b);
                value(desk, "a+b", a + b);
                value(desk, "a-b", a - b);
                value(desk, "a&b", a & b);
                value(desk, "a^b", a ^ b);
                value(desk, "a|b", a | b);
                value(desk, "a<<b", a << b);
                value(desk, "a>>b", a >> b);
                value(desk, "a>>>b", a >>> b);
                comparisons(desk, a, b);
                if (b == 0) {
                    exception(desk, "a/b", 1);
                    exception(desk, "a%b", 1);
                } else {
                    value(desk, "a/b", a / b);
                    value(desk, "a%b", a % b);
                }
            }
        }
    }

    private static void comparisons(MirrorDesk desk, long a, long b) {
        value(desk, "a<b", a < b ? 1 : 0);
        value(desk, "a<=b", a <= b ? 1 : 0);
        value(desk, "a>b", a > b ? 1 : 0);
        value(desk, "a>=b", a >= b ? 1 : 0);
        value(desk, "a==b", a == b ? 1 : 0);
        value(desk, "a!=b", a != b ? 1 : 0);
    }

    private static void twoLongs() {
        int[] kinds = {Desks.LONG, Desks.LONG};
        for (long a : LONGS) {
            for (long b : LONGS) {
                MirrorDesk desk = desk(kinds, a, b);
                value(desk, "a*b", a * b);
                value(desk, "a+b", a + b);
                value(desk, "a-b", a - b);
                value(desk, "a&b", a & b);
                value(desk, "a^b", a ^ b);
                value(desk, "a|b", a | b);
                value(desk, "a<<b", a << b);
                value(desk, "a>>b", a >> b);
                value(desk, "a>>>b", a >>> b);
                comparisons(desk, a, b);
                if (b == 0) {
                    exception(desk, "a/b", 1);
                    exception(desk, "a%b", 1);
                } else {
                    value(desk, "a/b", a / b);
                    value(desk, "a%b", a % b);
                }
            }
        }
    }

    private static void intAndLong() {
        for (int a : INTS) {
            for (long b : LONGS) {
                MirrorDesk desk = desk(new int[] {Desks.INT, Desks.LONG}, a, b);
                value(desk, "a*b", a * b);
                value(desk, "b-a", b - a);
                value(desk, "a|b", a | b);
                value(desk, "a<<b", a << b);
                value(desk, "a>>b", a >> b);
                value(desk, "a>>>b", a >>> b);
                value(desk, "b<<a", b << a);
                value(desk, "b>>a", b >> a);
                value(desk, "b>>>a", b >>> a);
                comparisons(desk, a, b);
            }
        }
    }

    private static void chars() {
        for (char a : CHARS) {
            for (int b : INTS) {
                MirrorDesk desk = desk(new int[] {Desks.CHAR, Desks.INT}, a, b);
                value(desk, "a+b", a + b);
                value(desk, "a*a", a * a);
                value(desk, "a<<b", a << b);
                value(desk, "b>>>a", b >>> a);
                value(desk, "a&b", a & b);
                value(desk, "~a", ~a);
                value(desk, "-a", -a);
                value(desk, "+a", +a);
                value(desk, "b<0?a:b", b < 0 ? (int) a : b);
                comparisons(desk, a, b);
            }
        }
    }

    private static void before() {
        for (int a : INTS) {
            MirrorDesk desk = desk(new int[] {Desks.INT}, a);
            value(desk, "-a", -a);
            value(desk, "+a", a);
            value(desk, "~a", ~a);
            value(desk, "- -a", a);
            value(desk, "-~a", a + 1);
        }
        for (long a : LONGS) {
            MirrorDesk desk = desk(new int[] {Desks.LONG}, a);
            value(desk, "-a", -a);
            value(desk, "+a", a);
            value(desk, "~a", ~a);
        }
        value(Desks.stopped(), "!true", 0);
        value(Desks.stopped(), "!false", 1);
        value(Desks.stopped(), "!!true", 1);
    }

    private static void casts() {
        for (long a : LONGS) {
            MirrorDesk desk = desk(new int[] {Desks.LONG}, a);
            value(desk, "(int)a", (int) a);
            value(desk, "(char)a", (char) a);
            value(desk, "(long)a", a);
            value(desk, "(long)(char)(int)a", (char) a);
            value(desk, "(int)a>>>1", (int) a >>> 1);
        }
        for (int a : INTS) {
            MirrorDesk desk = desk(new int[] {Desks.INT}, a);
            value(desk, "(int)a", a);
            value(desk, "(char)a", (char) a);
            value(desk, "(long)a", a);
            value(desk, "(long)a<<32", (long) a << 32);
            value(desk, "(long)a>>>1", (long) a >>> 1);
        }
        for (char a : CHARS) {
            MirrorDesk desk = desk(new int[] {Desks.CHAR}, a);
            value(desk, "(int)a", a);
            value(desk, "(char)a", a);
            value(desk, "(long)a", a);
            value(desk, "(char)(a+1)", (char) (a + 1));
            value(desk, "(char)-a", (char) -a);
        }
        value(Desks.stopped(), "(boolean)true", 1);
        value(Desks.stopped(), "(boolean)false", 0);
    }

    private static void booleans() {
        for (int bits = 0; bits < 8; bits++) {
            boolean a = (bits & 1) != 0;
            boolean b = (bits & 2) != 0;
            boolean c = (bits & 4) != 0;
            MirrorDesk desk = desk(new int[] {Desks.BOOLEAN, Desks.BOOLEAN, Desks.BOOLEAN},
                    a ? 1 : 0, b ? 1 : 0, c ? 1 : 0);
            value(desk, "a&b", a & b ? 1 : 0);
            value(desk, "a|b", a | b ? 1 : 0);
            value(desk, "a^b", a ^ b ? 1 : 0);
            value(desk, "a==b", a == b ? 1 : 0);
            value(desk, "a!=b", a != b ? 1 : 0);
            value(desk, "a&&b", a && b ? 1 : 0);
            value(desk, "a||b", a || b ? 1 : 0);
            value(desk, "a?b:c", (a ? b : c) ? 1 : 0);
            value(desk, "a||b&&c", a || b && c ? 1 : 0);
            value(desk, "a|b^c&a", a | b ^ c & a ? 1 : 0);
            value(desk, "a^b|c&&b", a ^ b | c && b ? 1 : 0);
            value(desk, "a==b&c", a == b & c ? 1 : 0);
            value(desk, "a?b:c?a:b", (a ? b : c ? a : b) ? 1 : 0);
            value(desk, "a?b?1:2:c?3:4", a ? b ? 1 : 2 : c ? 3 : 4);
            value(desk, "a||b?c:a", (a || b ? c : a) ? 1 : 0);
            value(desk, "!a&&b||!c", !a && b || !c ? 1 : 0);
        }
    }

    private static final String[] INT_SIGNS =
        {"|", "^", "&", "<<", ">>", ">>>", "+", "-", "*", "/", "%"};
    private static final int[] INT_LEVELS = {3, 4, 5, 8, 8, 8, 9, 9, 10, 10, 10};
    private static final String[] BOOLEAN_SIGNS = {"||", "&&", "|", "^", "&", "==", "!="};
    private static final int[] BOOLEAN_LEVELS = {1, 2, 3, 4, 5, 6, 6};

    private static int two(String sign, int a, int b) {
        switch (sign) {
            case "||": case "|":
                return a | b;
            case "&&": case "&":
                return a & b;
            case "^":
                return a ^ b;
            case "!=":
                return a != b ? 1 : 0;
            case "==":
                return a == b ? 1 : 0;
            case "<<":
                return a << b;
            case ">>":
                return a >> b;
            case ">>>":
                return a >>> b;
            case "+":
                return a + b;
            case "-":
                return a - b;
            case "*":
                return a * b;
            case "/":
                return a / b;
            default:
                return a % b;
        }
    }

    /** Every two signs over three operands, against the order that the levels tell. */
    private static void pairs(String[] signs, int[] levels, String[] written, int[] values) {
        for (int i = 0; i < signs.length; i++) {
            for (int j = 0; j < signs.length; j++) {
                int due = levels[j] > levels[i]
                        ? two(signs[i], values[0], two(signs[j], values[1], values[2]))
                        : two(signs[j], two(signs[i], values[0], values[1]), values[2]);
                value(Desks.stopped(), written[0] + signs[i] + written[1] + signs[j] + written[2], due);
            }
        }
    }

    private static void whatBindsMore() {
        String[] truths = {"false", "true"};
        for (int bits = 0; bits < 8; bits++) {
            int[] values = {bits & 1, bits >> 1 & 1, bits >> 2};
            pairs(BOOLEAN_SIGNS, BOOLEAN_LEVELS,
                    new String[] {truths[values[0]], truths[values[1]], truths[values[2]]}, values);
        }
        pairs(INT_SIGNS, INT_LEVELS, new String[] {"77", "13", "5"}, new int[] {77, 13, 5});
        pairs(INT_SIGNS, INT_LEVELS, new String[] {"-99", "7", "3"}, new int[] {-99, 7, 3});
        value(Desks.stopped(), "1<2==2<1", 0);
        value(Desks.stopped(), "true==2<1", 0);
        value(Desks.stopped(), "2<1<<1", 0);
        value(Desks.stopped(), "1<<1<3", 1);
        value(Desks.stopped(), "3>2&2>3", 0);
        value(Desks.stopped(), "null==null==true", 1);
        value(Desks.stopped(), "-1+2", 1);
        value(Desks.stopped(), "-1*-2-~3", 6);
        value(Desks.stopped(), "(char)65536+7", 7);
        value(Desks.stopped(), "!true||true", 1);
        value(Desks.stopped(), "true||false?1:2", 1);
    }

    private static void order() {
        value(Desks.stopped(), "1+2*3-4%3", 6);
        value(Desks.stopped(), "100/7/2", 7);
        value(Desks.stopped(), "100-7-2", 91);
        value(Desks.stopped(), "100/(7/2)", 33);
        value(Desks.stopped(), "7%4*2", 6);
        value(Desks.stopped(), "-7/2", -3);
        value(Desks.stopped(), "-7%2", -1);
        value(Desks.stopped(), "7/-2", -3);
        value(Desks.stopped(), "7%-2", 1);
        value(Desks.stopped(), "1<<2+1", 8);
        value(Desks.stopped(), "256>>2>>1", 32);
        value(Desks.stopped(), "1|2^3&6", 1);
        value(Desks.stopped(), "1+1<<1|1", 5);
        value(Desks.stopped(), "1<2==2>1", 1);
        value(Desks.stopped(), "1==1==true", 1);
        value(Desks.stopped(), "3&1", 1);
        value(Desks.stopped(), "2147483647+1", -2147483648L);
        value(Desks.stopped(), "2147483647+1L", 2147483648L);
        value(Desks.stopped(), "2147483647*2147483647", 1);
        value(Desks.stopped(), "65536*65536", 0);
        value(Desks.stopped(), "65536L*65536", 4294967296L);
        value(Desks.stopped(), "-2147483648/-1", -2147483648L);
        value(Desks.stopped(), "-2147483648%-1", 0);
        value(Desks.stopped(), "1<<33", 2);
        value(Desks.stopped(), "1<<32L", 1);
        value(Desks.stopped(), "1L<<33", 8589934592L);
        value(Desks.stopped(), "1L<<64", 1);
        value(Desks.stopped(), "-1>>>28", 15);
        value(Desks.stopped(), "-1L>>>60", 15);
        value(Desks.stopped(), "-1>>>-1", 1);
        value(Desks.stopped(), "'a'+'b'", 195);
        value(Desks.stopped(), "(char)('a'+1)", 98);
        value(Desks.stopped(), "null==null", 1);
        value(Desks.stopped(), "null!=null", 0);
        value(Desks.stopped(), "null", 0);
        value(Desks.stopped(), "true", 1);
        value(Desks.stopped(), "false", 0);
    }

    private static void exceptions() {
        exception(Desks.stopped(), "1/0", 1);
        exception(Desks.stopped(), "1%0", 1);
        exception(Desks.stopped(), "1L/0", 1);
        exception(Desks.stopped(), "1/0L", 1);
        exception(Desks.stopped(), "1%(char)0", 1);
        exception(Desks.stopped(), "0/0", 1);
        exception(Desks.stopped(), "1+2*(3/(1-1))", 1);
        exception(Desks.stopped(), "true&&1/0==1", 1);
        exception(Desks.stopped(), "false||1/0==1", 1);
        exception(Desks.stopped(), "1/0==1&&false", 1);
        exception(Desks.stopped(), "false&1/0==1", 1);
        exception(Desks.stopped(), "true|1/0==1", 1);
        exception(Desks.stopped(), "true?1/0:1", 1);
        exception(Desks.stopped(), "1/0==1?1:1", 1);
        value(Desks.stopped(), "false&&1/0==1", 0);
        value(Desks.stopped(), "true||1/0==1", 1);
        value(Desks.stopped(), "true?1:1/0", 1);
        value(Desks.stopped(), "false?1/0:1", 1);
        value(Desks.stopped(), "false&&true||true", 1);
        value(Desks.stopped(), "false&&1/0==1||true", 1);
        value(Desks.stopped(), "true||1/0==1&&1/0==1", 1);
        value(Desks.stopped(), "(true||1/0==1)&&false", 0);
        value(Desks.stopped(), "true?false?1/0:2:1/0", 2);
    }

    /** a, b: null and an A; c, d: null and an array of 2 ints, e: an array of 1 A; f, g: 0 and 2. */
    private static MirrorDesk parts() {
        MirrorDesk desk = new MirrorDesk();
        desk.addClass(-1);
        desk.addField(0, 0, Desks.INT);
        desk.addField(0, 1, Desks.A);
        int[] kinds = {Desks.A, Desks.A, Desks.INTS, Desks.INTS, Desks.ARRAY_OF_A, Desks.INT, Desks.INT};
        desk.make(Desks.A, 0);
        desk.make(Desks.INTS, 2);
        desk.make(Desks.ARRAY_OF_A, 1);
        long[] values = {0, 1, 0, 2, 3, 0, 2};
        for (int i = 0; i < kinds.length; i++) {
            desk.addVariable(i, kinds[i]);
            desk.setVariable(i, values[i]);
        }
        desk.setPart(1, 0, 77);
        desk.setPart(2, 0, 1);
        desk.setPart(2, 1, 500);
        desk.run(false);
        return desk;
    }

    private static void exceptionsOfParts() {
        exception(parts(), "a.a", 2);
        exception(parts(), "b.b.a", 2);
        exception(parts(), "c.length", 2);
        exception(parts(), "c[0]", 2);
        exception(parts(), "c[-1]", 2);
        exception(parts(), "c[1/0]", 1);
        exception(parts(), "d[1/0]", 1);
        exception(parts(), "c[d[2]]", 3);
        exception(parts(), "d[c[0]]", 2);
        exception(parts(), "d[-1]", 3);
        exception(parts(), "d[2]", 3);
        exception(parts(), "d[g]", 3);
        exception(parts(), "d['a']", 3);
        exception(parts(), "d[2147483647]", 3);
        exception(parts(), "d[-2147483648]", 3);
        exception(parts(), "e[0].a", 2);
        exception(parts(), "e[1].a", 3);
        exception(parts(), "1/0+a.a", 1);
        exception(parts(), "a.a+1/0", 2);
        exception(parts(), "a.a/0", 2);
        exception(parts(), "(1/f)/f", 1);
        value(parts(), "b.a", 77);
        value(parts(), "d.length", 2);
        value(parts(), "d[0]", 1);
        value(parts(), "d[(char)1]", 500);
        value(parts(), "d[d[0]]", 500);
        value(parts(), "d[d.length-1]", 500);
        value(parts(), "e[0]", 0);
        value(parts(), "e[0]==null", 1);
        value(parts(), "b.b", 0);
        value(parts(), "a!=null&&a.a==1", 0);
        value(parts(), "a==null?b.a:a.a", 77);
    }

    /** B extends A, C extends B, D is apart; a, b, c: an A, a B and a C as an A; d: null; e: a B[]. */
    private static MirrorDesk classes() {
        MirrorDesk desk = new MirrorDesk();
        desk.addClass(-1);
        desk.addClass(0);
        desk.addClass(1);
        desk.addClass(-1);
        for (int i = 0; i < 3; i++) {
            desk.make(Desks.A + i, 0);
            desk.addVariable(i, Desks.A);
            desk.setVariable(i, i + 1);
        }
        desk.addVariable(3, Desks.A);
        desk.make(Desks.ARRAY_OF_B, 2);
        desk.addVariable(4, Desks.ARRAY_OF_B);
        desk.setVariable(4, 4);
        desk.addVariable(26, Desks.C);
        desk.setVariable(26, 3);
        desk.run(false);
        return desk;
    }

    private static void castsOfReferences() {
        value(classes(), "(A)a", 1);
        exception(classes(), "(B)a", 4);
        exception(classes(), "(C)a", 4);
        value(classes(), "(B)b", 2);
        exception(classes(), "(C)b", 4);
        value(classes(), "(C)c", 3);
        value(classes(), "(B)c", 3);
        value(classes(), "(A)this", 3);
        value(classes(), "(B)d", 0);
        value(classes(), "(C)null", 0);
        value(classes(), "(int[])null", 0);
        value(classes(), "(B[])e", 4);
        value(classes(), "(C)(A)(B)c", 3);
        exception(classes(), "(C)(A)(B)b", 4);
        value(classes(), "(B)e[0]", 0);
    }

    private static void instanceofs() {
        String[] variables = {"a", "b", "c", "d"};
        String[] types = {"A", "B", "C"};
        long[][] due = {{1, 0, 0}, {1, 1, 0}, {1, 1, 1}, {0, 0, 0}};
        for (int i = 0; i < 4; i++) {
            for (int j = 0; j < 3; j++) {
                value(classes(), variables[i] + " instanceof " + types[j], due[i][j]);
            }
        }
        value(classes(), "null instanceof D", 0);
        value(classes(), "this instanceof A", 1);
        value(classes(), "this instanceof C", 1);
        value(classes(), "e[0] instanceof B", 0);
        value(classes(), "a instanceof A==true", 1);
        value(classes(), "!(a instanceof B)", 1);
    }

    private static void references() {
        value(classes(), "a", 1);
        value(classes(), "a==b", 0);
        value(classes(), "a!=b", 1);
        value(classes(), "a==a", 1);
        value(classes(), "c==this", 1);
        value(classes(), "this!=c", 0);
        value(classes(), "d==null", 1);
        value(classes(), "null!=a", 1);
        value(classes(), "a==b?c:d", 0);
        value(classes(), "a==a?this:d", 3);
        value(classes(), "d==null?null:a", 0);
        value(classes(), "e", 4);
        value(classes(), "e.length", 2);
        value(classes(), "e==null", 0);
    }
}
