/**
 * The document's sentences on types and values (Terms), one after another: each at its bound, just
 * inside it and just beyond it. The sentence stands above its test.
 */
public final class ValueBoundsTest {
    private static final long LEAST_INT = Integer.MIN_VALUE;
    private static final long MOST_INT = Integer.MAX_VALUE;
    private static final long LEAST = Long.MIN_VALUE;
    private static final long MOST = Long.MAX_VALUE;

    private ValueBoundsTest() {
    }

    public static void main(String[] args) {
        kindsOfConstants();
        commonAndPromoted();
        kindsOfChoices();
        kindsOfIndexes();
        notThere();
        whereverItStands();
        sumsWrap();
        productsWrap();
        signsBeforeWrap();
        commonFirst();
        quotients();
        rests();
        bitsOfShiftsOfInts();
        bitsOfShiftsOfLongs();
        castsToInt();
        castsToChar();
        castsToLong();
        comparisonsAtBounds();
        onlyIfNeeded();
        operandsFirst();
        dividedByZero();
        nullUsed();
        nullBehindTheIndex();
        outOfArrays();
        castsThatFail();
        nullIsNoInstance();
        sameNumber();
        exceptionStays();
        longestExpressions();
        Check.end();
    }

    /** A stopped desk with ints a, b, longs l, m and a char c. */
    private static MirrorDesk numbers(long a, long b, long l, long m, long c) {
        MirrorDesk desk = new MirrorDesk();
        char[] names = {'a', 'b', 'l', 'm', 'c'};
        int[] kinds = {Desks.INT, Desks.INT, Desks.LONG, Desks.LONG, Desks.CHAR};
        long[] values = {a, b, l, m, c};
        for (int i = 0; i < names.length; i++) {
            desk.addVariable(Desks.name(names[i]), kinds[i]);
            Check.isTrue("set " + names[i], desk.setVariable(Desks.name(names[i]), values[i]));
        }
        desk.run(false);
        return desk;
    }

    private static void comesTo(MirrorDesk desk, String text, long due) {
        Check.same("state of " + text, Desks.work(desk, 0, text), Desks.VALUE);
        Check.same("value of " + text, desk.value(0), due);
        Check.same("no exception of " + text, desk.look(0, 2), 0);
    }

    private static void fails(MirrorDesk desk, String text, int due) {
        Check.same("state of " + text, Desks.work(desk, 0, text), Desks.EXCEPTION);
        Check.same("exception of " + text, desk.look(0, 2), due);
        Check.same("no value of " + text, desk.value(0), 0);
        Check.isTrue("a kind of " + text, desk.look(0, 1) >= 0);
    }

    private static void kind(MirrorDesk desk, String text, int due) {
        int state = Desks.eval(desk, 0, text);
        Check.same("kind of " + text, desk.look(0, 1), due);
        Check.same("ill typed: " + text, state == Desks.ILL_TYPED, due == -1);
    }

    // "Numbers are int, or long with L; characters char; a variable or this has its kind."
    private static void kindsOfConstants() {
        MirrorDesk desk = numbers(0, 0, 0, 0, 0);
        kind(desk, "0", Desks.INT);
        kind(desk, "2147483647", Desks.INT);
        kind(desk, "-2147483648", Desks.INT);
        kind(desk, "0L", Desks.LONG);
        kind(desk, "2147483648L", Desks.LONG);
        kind(desk, "' '", Desks.CHAR);
        kind(desk, "a", Desks.INT);
        kind(desk, "l", Desks.LONG);
        kind(desk, "c", Desks.CHAR);
    }

    // "The COMMON kind of two numeric ones is long if one is long, else int; PROMOTED means: common with
    // int."
    private static void commonAndPromoted() {
        String[] names = {"a", "l", "c"};
        for (String left : names) {
            for (String right : names) {
                MirrorDesk desk = numbers(1, 1, 1, 1, 1);
                boolean isLong = left.equals("l") || right.equals("l");
                kind(desk, left + "+" + right, isLong ? Desks.LONG : Desks.INT);
                kind(desk, left + "|" + right, isLong ? Desks.LONG : Desks.INT);
                kind(desk, left + "<<" + right, left.equals("l") ? Desks.LONG : Desks.INT);
            }
            kind(numbers(1, 1, 1, 1, 1), "+" + left, left.equals("l") ? Desks.LONG : Desks.INT);
        }
    }

    // "X and Y two of one kind (also null and null): this; two numeric: common; two related references:
    // the one which the other fits (of null and another: the other)"
    private static void kindsOfChoices() {
        kind(numbers(1, 1, 1, 1, 1), "true?c:c", Desks.CHAR);
        kind(numbers(1, 1, 1, 1, 1), "true?c:a", Desks.INT);
        kind(numbers(1, 1, 1, 1, 1), "true?a:c", Desks.INT);
        kind(numbers(1, 1, 1, 1, 1), "true?a:l", Desks.LONG);
        kind(numbers(1, 1, 1, 1, 1), "true?null:null", Desks.NULL);
        kind(numbers(1, 1, 1, 1, 1), "true?a:null", -1);
        kind(numbers(1, 1, 1, 1, 1), "true?a:true", -1);
        kind(objects(), "true?a:b", Desks.A);
        kind(objects(), "true?b:a", Desks.A);
        kind(objects(), "true?b:null", Desks.B);
        kind(objects(), "true?null:b", Desks.B);
        kind(objects(), "true?null:e", Desks.ARRAY_OF_B);
        kind(objects(), "true?d:null", Desks.INTS);
        kind(objects(), "true?b:c", -1);
        kind(objects(), "true?d:e", -1);
    }

    // "X[Y]: X an array, Y int or char: int or the class"
    private static void kindsOfIndexes() {
        kind(objects(), "d[0]", Desks.INT);
        kind(objects(), "d['0']", Desks.INT);
        kind(objects(), "e[0]", Desks.B);
        kind(objects(), "e['0']", Desks.B);
        kind(objects(), "d[0L]", -1);
        kind(objects(), "d[true]", -1);
        kind(objects(), "d[null]", -1);
        kind(objects(), "a[0]", -1);
        kind(objects(), "null[0]", -1);
        kind(objects(), "null.length", -1);
        kind(objects(), "a.length", -1);
        kind(objects(), "null.a", -1);
        kind(objects(), "d.a", -1);
    }

    // "(also a variable, field or class that is not there)"
    private static void notThere() {
        MirrorDesk bare = Desks.stopped();
        for (char name = 'a'; name <= 'z'; name++) {
            kind(bare, String.valueOf(name), -1);
        }
        kind(bare, "this", -1);
        for (char type = 'A'; type <= 'F'; type++) {
            kind(bare, "(" + type + ")null", -1);
            kind(bare, "(" + type + "[])null", -1);
            kind(bare, "null instanceof " + type, -1);
            kind(objects(), "(" + type + ")null", type <= 'D' ? 4 + type - 'A' : -1);
            kind(objects(), "(" + type + "[])null", type <= 'D' ? 11 + type - 'A' : -1);
            kind(objects(), "null instanceof " + type, type <= 'D' ? Desks.BOOLEAN : -1);
        }
        for (char name = 'a'; name <= 'z'; name++) {
            kind(objects(), "a." + name, name == 'a' ? Desks.INT : -1);
            kind(objects(), "b." + name, name == 'a' || name == 'b' ? Desks.INT : -1);
        }
    }

    // "is ILL TYPED, wherever it stands"
    private static void whereverItStands() {
        String[] faults = {"q", "!1", "(F)null", "a.q", "null instanceof F", "-true", "d[1L]", "1&&true"};
        for (String fault : faults) {
            String[] places = {"true||(" + fault + ")==1", "false&&(" + fault + ")==1",
                "true?1:(" + fault + ")", "false?(" + fault + "):1", "1/0+(" + fault + ")",
                "d[(" + fault + ")]", "((" + fault + "))", "(int)(" + fault + ")", "(" + fault + ")==null",
                "null==(" + fault + ")"};
            for (String place : places) {
                kind(objects(), place, -1);
            }
            MirrorDesk desk = objects();
            Desks.eval(desk, 0, places[0]);
            Check.same("nothing is asked for", desk.count(2), 0);
        }
    }

    // "wrapping": sums and differences
    private static void sumsWrap() {
        MirrorDesk desk = numbers(MOST_INT, LEAST_INT, MOST, LEAST, 65535);
        comesTo(desk, "a+0", MOST_INT);
        comesTo(desk, "a+1", LEAST_INT);
        comesTo(desk, "a-1+1", MOST_INT);
        comesTo(desk, "b-0", LEAST_INT);
        comesTo(desk, "b-1", MOST_INT);
        comesTo(desk, "a+a", -2);
        comesTo(desk, "b+b", 0);
        comesTo(desk, "a-b", -1);
        comesTo(desk, "l+0", MOST);
        comesTo(desk, "l+1", LEAST);
        comesTo(desk, "m-0", LEAST);
        comesTo(desk, "m-1", MOST);
        comesTo(desk, "l+l", -2);
        comesTo(desk, "m+m", 0);
        comesTo(desk, "l-m", -1);
        comesTo(desk, "c+1", 65536);
        comesTo(desk, "c+c", 131070);
        comesTo(desk, "a+1L", MOST_INT + 1);
        comesTo(desk, "b-1L", LEAST_INT - 1);
        comesTo(desk, "a+c", LEAST_INT + 65534);
    }

    private static void productsWrap() {
        MirrorDesk desk = numbers(MOST_INT, LEAST_INT, MOST, LEAST, 65535);
        comesTo(desk, "a*1", MOST_INT);
        comesTo(desk, "a*2", -2);
        comesTo(desk, "a*a", 1);
        comesTo(desk, "b*-1", LEAST_INT);
        comesTo(desk, "b*b", 0);
        comesTo(desk, "c*c", -131071);
        comesTo(desk, "65536*32767", 2147418112);
        comesTo(desk, "65536*32768", LEAST_INT);
        comesTo(desk, "65536*65536", 0);
        comesTo(desk, "l*2", -2);
        comesTo(desk, "l*l", 1);
        comesTo(desk, "m*-1", LEAST);
        comesTo(desk, "4294967296L*2147483648L", LEAST);
        comesTo(desk, "4294967296L*4294967296L", 0);
        comesTo(desk, "a*a*1L", 1);
        comesTo(desk, "1L*a*a", 4611686014132420609L);
    }

    private static void signsBeforeWrap() {
        MirrorDesk desk = numbers(MOST_INT, LEAST_INT, MOST, LEAST, 65535);
        comesTo(desk, "-a", -MOST_INT);
        comesTo(desk, "-b", LEAST_INT);
        comesTo(desk, "+b", LEAST_INT);
        comesTo(desk, "~a", LEAST_INT);
        comesTo(desk, "~b", MOST_INT);
        comesTo(desk, "-l", -MOST);
        comesTo(desk, "-m", LEAST);
        comesTo(desk, "~l", LEAST);
        comesTo(desk, "~m", MOST);
        comesTo(desk, "-c", -65535);
        comesTo(desk, "~c", -65536);
        comesTo(desk, "-0", 0);
        comesTo(desk, "~0", -1);
        comesTo(desk, "-2147483648", LEAST_INT);
    }

    // "numbers made common or promoted first"
    private static void commonFirst() {
        MirrorDesk desk = numbers(MOST_INT, LEAST_INT, MOST, LEAST, 65535);
        comesTo(desk, "a+1+0L", LEAST_INT);
        comesTo(desk, "a+(1+0L)", MOST_INT + 1);
        comesTo(desk, "b==m", 0);
        comesTo(desk, "b/-1L", -LEAST_INT);
        comesTo(desk, "a<l", 1);
        comesTo(desk, "c<a", 1);
        comesTo(desk, "c<<16", -65536);
        comesTo(desk, "c<<16L", -65536);
        comesTo(desk, "c>>>1", 32767);
        comesTo(desk, "true?c:1", 65535);
        comesTo(desk, "-1&c", 65535);
        comesTo(desk, "-1^0L", -1);
        comesTo(desk, "c==65535", 1);
        comesTo(desk, "c==-1", 0);
    }

    // "the quotient rounded towards 0"
    private static void quotients() {
        MirrorDesk desk = numbers(MOST_INT, LEAST_INT, MOST, LEAST, 65535);
        long[][] rows = {{7, 2, 3}, {-7, 2, -3}, {7, -2, -3}, {-7, -2, 3}, {1, 2, 0}, {-1, 2, 0}, {6, 2, 3},
            {-6, 2, -3}, {0, 5, 0}, {0, -5, 0}, {5, 5, 1}, {4, 5, 0}, {-4, 5, 0}, {-5, 5, -1}, {6, -5, -1}};
        for (long[] row : rows) {
            comesTo(desk, row[0] + "/" + row[1], row[2]);
            comesTo(numbers(1, 1, 1, 1, 1), row[0] + "L/" + row[1], row[2]);
        }
        desk = numbers(MOST_INT, LEAST_INT, MOST, LEAST, 65535);
        comesTo(desk, "b/-1", LEAST_INT);
        comesTo(desk, "b/1", LEAST_INT);
        comesTo(desk, "b/-2", 1073741824);
        comesTo(desk, "(b+1)/-1", MOST_INT);
        comesTo(desk, "m/-1", LEAST);
        comesTo(desk, "(m+1)/-1", MOST);
        comesTo(desk, "m/m", 1);
        comesTo(desk, "l/m", 0);
        comesTo(desk, "m/l", -1);
        comesTo(desk, "a/b", 0);
        comesTo(desk, "b/a", -1);
        comesTo(desk, "c/2", 32767);
    }

    // "its rest"
    private static void rests() {
        MirrorDesk desk = numbers(MOST_INT, LEAST_INT, MOST, LEAST, 65535);
        long[][] rows = {{7, 2, 1}, {-7, 2, -1}, {7, -2, 1}, {-7, -2, -1}, {1, 2, 1}, {-1, 2, -1}, {6, 2, 0},
            {-6, 2, 0}, {0, 5, 0}, {5, 5, 0}, {4, 5, 4}, {-4, 5, -4}, {6, -5, 1}, {-6, -5, -1}};
        for (long[] row : rows) {
            comesTo(desk, row[0] + "%" + row[1], row[2]);
            comesTo(numbers(1, 1, 1, 1, 1), row[0] + "L%" + row[1], row[2]);
        }
        desk = numbers(MOST_INT, LEAST_INT, MOST, LEAST, 65535);
        comesTo(desk, "b%-1", 0);
        comesTo(desk, "m%-1", 0);
        comesTo(desk, "b%a", -1);
        comesTo(desk, "a%b", MOST_INT);
        comesTo(desk, "m%l", -1);
        comesTo(desk, "l%m", MOST);
        comesTo(desk, "c%256", 255);
        comesTo(desk, "b%2", 0);
    }

    // "the last 5 bits .. of what stands on the right of << >> >>>"
    private static void bitsOfShiftsOfInts() {
        long[] by = {0, 1, 30, 31, 32, 33, 63, 64, 65, -1, -31, -32, -33, MOST_INT, LEAST_INT};
        int[] values = {1, -1, 5, -5, Integer.MAX_VALUE, Integer.MIN_VALUE};
        for (int v : values) {
            for (long bits : by) {
                int last = (int) (bits & 31);
                MirrorDesk desk = numbers(v, bits, bits, 0, 65535);
                comesTo(desk, "a<<b", v << last);
                comesTo(desk, "a>>b", v >> last);
                comesTo(desk, "a>>>b", v >>> last);
                comesTo(desk, "a<<l", v << last);
                comesTo(desk, "a>>l", v >> last);
                comesTo(desk, "a>>>l", v >>> last);
                comesTo(desk, "c<<b", 65535 << last);
                comesTo(desk, "c>>b", 65535 >> last);
            }
        }
        MirrorDesk desk = numbers(1, 0, 1L << 32, (1L << 32) + 31, 33);
        comesTo(desk, "a<<l", 1);
        comesTo(desk, "a<<m", LEAST_INT);
        comesTo(desk, "a<<c", 2);
    }

    // "(6 for a long on the left)"
    private static void bitsOfShiftsOfLongs() {
        long[] by = {0, 1, 31, 32, 33, 62, 63, 64, 65, 127, 128, -1, -63, -64, -65, MOST_INT, LEAST_INT};
        long[] values = {1, -1, 5, -5, MOST, LEAST};
        for (long v : values) {
            for (long bits : by) {
                int last = (int) (bits & 63);
                MirrorDesk desk = numbers(0, bits, v, bits, 33);
                comesTo(desk, "l<<b", v << last);
                comesTo(desk, "l>>b", v >> last);
                comesTo(desk, "l>>>b", v >>> last);
                comesTo(desk, "l<<m", v << last);
                comesTo(desk, "l>>m", v >> last);
                comesTo(desk, "l>>>m", v >>> last);
            }
            comesTo(numbers(0, 0, v, 0, 33), "l<<c", v << 33);
        }
    }

    // "a cast takes the lowest bits (to int with the sign ..)"
    private static void castsToInt() {
        long[] values = {0, 1, -1, MOST_INT, MOST_INT + 1, LEAST_INT, LEAST_INT - 1, 1L << 32, (1L << 32) - 1,
            -(1L << 32), MOST, LEAST, 3L << 31, 65535, 65536};
        for (long v : values) {
            comesTo(numbers(0, 0, v, 0, 0), "(int)l", (int) v);
            comesTo(numbers(0, 0, v, 0, 0), "(int)l==l", v == (int) v ? 1 : 0);
        }
        comesTo(numbers(0, 0, 0, 0, 65535), "(int)c", 65535);
        comesTo(numbers(LEAST_INT, 0, 0, 0, 0), "(int)a", LEAST_INT);
    }

    // ".. to char without"
    private static void castsToChar() {
        long[] values = {0, 1, -1, 65535, 65536, 65537, -65535, -65536, -65537, 32767, 32768, MOST_INT,
            LEAST_INT, MOST, LEAST, (1L << 32) + 65535};
        for (long v : values) {
            comesTo(numbers(0, 0, v, 0, 0), "(char)l", v & 65535);
            comesTo(numbers((int) v, 0, 0, 0, 0), "(char)a", v & 65535);
            comesTo(numbers(0, 0, v, 0, 0), "(int)(char)l", v & 65535);
        }
        comesTo(numbers(0, 0, 0, 0, 65535), "(char)(c+1)", 0);
        comesTo(numbers(0, 0, 0, 0, 0), "(char)(c-1)", 65535);
        comesTo(numbers(0, 0, 0, 0, 65535), "(char)c", 65535);
    }

    private static void castsToLong() {
        comesTo(numbers(LEAST_INT, 0, 0, 0, 0), "(long)a", LEAST_INT);
        comesTo(numbers(MOST_INT, 0, 0, 0, 0), "(long)a+1", MOST_INT + 1);
        comesTo(numbers(MOST_INT, 0, 0, 0, 0), "(long)(a+1)", LEAST_INT);
        comesTo(numbers(-1, 0, 0, 0, 0), "(long)a>>>63", 1);
        comesTo(numbers(0, 0, 0, 0, 65535), "(long)c<<48", -281474976710656L);
        comesTo(numbers(0, 0, LEAST, 0, 0), "(long)l", LEAST);
        comesTo(Desks.stopped(), "(boolean)true", 1);
        comesTo(Desks.stopped(), "(boolean)false", 0);
    }

    // "< <= > >= two numeric: boolean", "== !=": just below, the same, just above
    private static void comparisonsAtBounds() {
        long[][] ints = {{-1, 0}, {0, 0}, {1, 0}, {LEAST_INT, MOST_INT}, {MOST_INT, LEAST_INT}, {MOST_INT,
            MOST_INT}, {LEAST_INT, LEAST_INT}, {LEAST_INT, LEAST_INT + 1}, {MOST_INT - 1, MOST_INT}};
        for (long[] two : ints) {
            compared(numbers(two[0], two[1], 0, 0, 0), "a", "b", two[0], two[1]);
        }
        long[][] longs = {{MOST_INT, MOST_INT + 1}, {LEAST, MOST}, {MOST, LEAST}, {MOST, MOST}, {LEAST,
            LEAST + 1}, {MOST - 1, MOST}, {1L << 32, 0}, {0, 1L << 32}};
        for (long[] two : longs) {
            compared(numbers(0, 0, two[0], two[1], 0), "l", "m", two[0], two[1]);
        }
        compared(numbers(0, -1, 0, 0, 65535), "c", "b", 65535, -1);
        compared(numbers(0, 65535, 0, 0, 65535), "c", "b", 65535, 65535);
        compared(numbers(0, 65536, 0, 0, 65535), "c", "b", 65535, 65536);
        compared(numbers(0, 0, 65534, 0, 65535), "c", "l", 65535, 65534);
    }

    private static void compared(MirrorDesk desk, String one, String other, long left, long right) {
        comesTo(desk, one + "<" + other, left < right ? 1 : 0);
        comesTo(desk, one + "<=" + other, left <= right ? 1 : 0);
        comesTo(desk, one + ">" + other, left > right ? 1 : 0);
        comesTo(desk, one + ">=" + other, left >= right ? 1 : 0);
        comesTo(desk, one + "==" + other, left == right ? 1 : 0);
        comesTo(desk, one + "!=" + other, left != right ? 1 : 0);
    }

    // "(for && and || the right one, for ? one of the two, only if it is needed)"
    private static void onlyIfNeeded() {
        MirrorDesk desk = Desks.stopped();
        comesTo(desk, "false&&1/0==1", 0);
        fails(desk, "true&&1/0==1", 1);
        comesTo(desk, "true||1/0==1", 1);
        fails(desk, "false||1/0==1", 1);
        comesTo(desk, "true?1:1/0", 1);
        fails(desk, "false?1:1/0", 1);
        fails(desk, "true?1/0:1", 1);
        comesTo(desk, "false?1/0:1", 1);
        fails(desk, "1/0==1?1:1", 1);
        fails(desk, "1/0==1&&false", 1);
        fails(desk, "1/0==1||true", 1);
        fails(desk, "false&1/0==1", 1);
        fails(desk, "true|1/0==1", 1);
        fails(desk, "false^1/0==1", 1);
        comesTo(desk, "false&&(true&&1/0==1)", 0);
        comesTo(desk, "true?false?1/0:2:1/0", 2);
        comesTo(desk, "(false&&1/0==1)==false", 1);
        comesTo(desk, "false&&1/0==1||true", 1);
        fails(desk, "false&&false||1/0==1", 1);
    }

    // "from left to right as it is usual: the operands first": of two exceptions the left one comes
    private static void operandsFirst() {
        fails(objects(), "1/0+f.a", 1);
        fails(objects(), "f.a+1/0", 2);
        fails(objects(), "1/0+d[9]", 1);
        fails(objects(), "d[9]+1/0", 3);
        fails(objects(), "d[9]/0", 3);
        fails(objects(), "1/0*0/0", 1);
        fails(objects(), "f.a==1&&1/0==1", 2);
        fails(objects(), "d[1/0]", 1);
        fails(objects(), "(d[9]==0?1:2)/0", 3);
    }

    // "1 if an int or long is divided by 0"
    private static void dividedByZero() {
        String[] zeros = {"0", "0L", "(char)0", "(1-1)", "-0", "a", "l", "c", "(a-1+1)"};
        String[] numbers = {"1", "0", "-1", "1L", "'a'", "-2147483648", "m"};
        for (String zero : zeros) {
            for (String number : numbers) {
                fails(numbers(0, 1, 0, 1, 0), number + "/" + zero, 1);
                fails(numbers(0, 1, 0, 1, 0), number + "%" + zero, 1);
            }
        }
        String[] others = {"1", "-1", "1L", "(char)1", "b", "m"};
        for (String other : others) {
            comesTo(numbers(0, 1, 0, 1, 0), "0/" + other, 0);
            comesTo(numbers(0, 1, 0, 1, 0), "0%" + other, 0);
        }
        comesTo(numbers(0, 0, 1L << 32, 0, 0), "1/l", 0);
        comesTo(numbers(0, 0, 1L << 32, 0, 0), "1%l", 1);
        fails(numbers(0, 0, 1L << 32, 0, 0), "1/(int)l", 1);
        fails(numbers(0, 0, 1L << 32, 0, 0), "1%(char)65536", 1);
        comesTo(numbers(0, 0, 0, 0, 0), "0*0-0", 0);
    }

    /**
     * B extends A, C and D are apart; A has a: int, B has b: int. Objects 1: an A, 2: a B, 3: three ints,
     * 4: two Bs, 5: no ints, 6: a C. Variables a: A, b: B, c: C, d: int[], e: B[], f: null as an A, g: null
     * as an int[], h: 5, i: object 2 as an A.
     */
    private static MirrorDesk objects() {
        MirrorDesk desk = new MirrorDesk();
        desk.addClass(-1);
        desk.addClass(0);
        desk.addClass(-1);
        desk.addClass(-1);
        desk.addField(0, 0, Desks.INT);
        desk.addField(1, 1, Desks.INT);
        int[] made = {Desks.A, Desks.B, Desks.INTS, Desks.ARRAY_OF_B, Desks.INTS, Desks.C};
        int[] lengths = {0, 0, 3, 2, 0, 0};
        for (int i = 0; i < made.length; i++) {
            desk.make(made[i], lengths[i]);
        }
        int[] kinds = {Desks.A, Desks.B, Desks.C, Desks.INTS, Desks.ARRAY_OF_B, Desks.A, Desks.INTS,
            Desks.INTS, Desks.A};
        long[] values = {1, 2, 6, 3, 4, 0, 0, 5, 2};
        for (int i = 0; i < kinds.length; i++) {
            desk.addVariable(i, kinds[i]);
            Check.isTrue("set", desk.setVariable(i, values[i]));
        }
        for (int part = 0; part < 3; part++) {
            desk.setPart(3, part, 30 + part);
        }
        desk.setPart(1, 0, 10);
        desk.setPart(4, 1, 2);
        desk.run(false);
        return desk;
    }

    // "2 if X of X.f, X.length, X[Y] is null"
    private static void nullUsed() {
        fails(objects(), "f.a", 2);
        fails(objects(), "((B)f).b", 2);
        fails(objects(), "((A)null).a", 2);
        fails(objects(), "g.length", 2);
        fails(objects(), "((B[])null).length", 2);
        fails(objects(), "g[0]", 2);
        fails(objects(), "e[0].a", 2);
        fails(objects(), "(true?null:a).a", 2);
        comesTo(objects(), "a.a", 10);
        comesTo(objects(), "e[1].a", 0);
        comesTo(objects(), "d.length", 3);
        comesTo(objects(), "h.length", 0);
        comesTo(objects(), "e.length", 2);
        comesTo(objects(), "f", 0);
        comesTo(objects(), "f==null", 1);
    }

    // "(for X[Y] after Y was worked out, so an exception in Y is ahead)"
    private static void nullBehindTheIndex() {
        fails(objects(), "g[1/0]", 1);
        fails(objects(), "g[d[3]]", 3);
        fails(objects(), "g[f.a]", 2);
        fails(objects(), "g[-1]", 2);
        fails(objects(), "g[9]", 2);
        fails(objects(), "g[((B)a).b]", 4);
        fails(objects(), "d[g[1/0]]", 1);
        fails(objects(), "f.a/(1/0)", 2);
    }

    // "3 if Y is not from 0 to the length less 1"
    private static void outOfArrays() {
        for (int length = 0; length <= 5; length++) {
            for (int index = -2; index <= 7; index++) {
                MirrorDesk desk = new MirrorDesk();
                desk.addVariable(0, Desks.INTS);
                desk.addVariable(1, Desks.INT);
                desk.make(Desks.INTS, length);
                desk.setVariable(0, 1);
                desk.setVariable(1, index);
                for (int part = 0; part < length; part++) {
                    desk.setPart(1, part, 100 + part);
                }
                desk.run(false);
                if (index >= 0 && index < length) {
                    comesTo(desk, "a[b]", 100 + index);
                } else {
                    fails(desk, "a[b]", 3);
                }
            }
        }
        String[] beyond = {"-1", "3", "2147483647", "-2147483648", "' '", "(char)3", "(char)-1", "25", "26",
            "27", "28"};
        for (String index : beyond) {
            fails(objects(), "d[" + index + "]", 3);
        }
        comesTo(objects(), "d[(char)2]", 32);
        comesTo(objects(), "d[(char)65536]", 30);
        comesTo(objects(), "d[(int)4294967297L]", 31);
        fails(objects(), "h[0]", 3);
        fails(objects(), "e[2]", 3);
        comesTo(objects(), "e[1]", 2);
    }

    // "4 if a reference that is not null is cast to a kind that its object doesn't fit"
    private static void castsThatFail() {
        fails(objects(), "(B)a", 4);
        fails(objects(), "((B)a).b", 4);
        fails(objects(), "(B)(A)a", 4);
        fails(objects(), "(B)a==null", 4);
        comesTo(objects(), "(A)a", 1);
        comesTo(objects(), "(B)i", 2);
        comesTo(objects(), "((B)i).b", 0);
        comesTo(objects(), "(A)b", 2);
        comesTo(objects(), "(B)(A)b", 2);
        comesTo(objects(), "(B)f", 0);
        comesTo(objects(), "(B)(A)null", 0);
        comesTo(objects(), "(C)null", 0);
        comesTo(objects(), "(int[])d", 3);
        comesTo(objects(), "(int[])g", 0);
        comesTo(objects(), "(B[])e", 4);
        comesTo(objects(), "(B)e[1]", 2);
        comesTo(objects(), "(B)e[0]", 0);
        kind(objects(), "(C)a", -1);
        kind(objects(), "(B[])d", -1);
        kind(objects(), "(A[])e", -1);
    }

    // "null is no instance of anything"
    private static void nullIsNoInstance() {
        String[] types = {"A", "B", "C", "D"};
        for (String type : types) {
            comesTo(objects(), "null instanceof " + type, 0);
        }
        comesTo(objects(), "f instanceof A", 0);
        comesTo(objects(), "f instanceof B", 0);
        comesTo(objects(), "(B)f instanceof A", 0);
        comesTo(objects(), "e[0] instanceof B", 0);
        comesTo(objects(), "e[1] instanceof B", 1);
        comesTo(objects(), "a instanceof A", 1);
        comesTo(objects(), "a instanceof B", 0);
        comesTo(objects(), "i instanceof B", 1);
        comesTo(objects(), "b instanceof A", 1);
        kind(objects(), "a instanceof C", -1);
        kind(objects(), "d instanceof A", -1);
    }

    // "two related references: boolean (the same number, null and null too)"
    private static void sameNumber() {
        comesTo(objects(), "null==null", 1);
        comesTo(objects(), "null!=null", 0);
        comesTo(objects(), "f==null", 1);
        comesTo(objects(), "null==g", 1);
        comesTo(objects(), "b==i", 1);
        comesTo(objects(), "b!=i", 0);
        comesTo(objects(), "a==i", 0);
        comesTo(objects(), "a!=i", 1);
        comesTo(objects(), "e[1]==i", 1);
        comesTo(objects(), "d==h", 0);
        comesTo(objects(), "d==g", 0);
        comesTo(objects(), "a==f", 0);
    }

    // "It ends with an EXCEPTION": what stands behind it is not worked out, and its kind is there
    private static void exceptionStays() {
        MirrorDesk desk = objects();
        Check.same("ends at once", Desks.eval(desk, 0, "1/0==1?a:b"), Desks.EXCEPTION);
        Check.same("nothing is asked for", desk.count(2), 0);
        Check.same("its kind", desk.look(0, 1), Desks.A);
        Check.same("its exception", desk.look(0, 2), 1);
        Check.same("ends at once", Desks.eval(desk, 1, "((A)null).a+a.a"), Desks.EXCEPTION);
        Check.same("nothing is asked for", desk.count(2), 0);
        Check.same("its kind", desk.look(1, 1), Desks.INT);
        Check.same("its exception", desk.look(1, 2), 2);
    }

    /** As many steps as 24 tokens can make, none of which has to wait. */
    private static void longestExpressions() {
        MirrorDesk desk = new MirrorDesk();
        desk.addVariable(0, Desks.BOOLEAN);
        desk.setVariable(0, 1);
        desk.run(false);
        String all = "a" + "&&a".repeat(11);
        String any = "a" + "||a".repeat(11);
        comesTo(desk, all, 1);
        comesTo(desk, "!" + all, 0);
        comesTo(desk, any, 1);
        comesTo(desk, "!" + any, 1);
        comesTo(desk, "a==" + "a&&".repeat(10) + "!a", 0);
        comesTo(desk, "-1" + "+1".repeat(11), 10);
        comesTo(desk, "~".repeat(23) + "5", -6);
        comesTo(desk, "~".repeat(22) + "5", 5);
        comesTo(desk, "a?a?a?a?1:2:3:4:5", 1);
        comesTo(desk, "!a?1:!a?2:!a?3:!a?4:5", 5);
        comesTo(desk, "((((((1))))))+((((2))))", 3);
        Check.same("it was asked for once", desk.count(2), 1);
    }
}
