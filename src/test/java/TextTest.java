/** Promises 10 and 11: the text that is written, its tokens, and which texts are expressions. */
public final class TextTest {
    private TextTest() {
    }

    public static void main(String[] args) {
        putting();
        tokens();
        numbers();
        largestIntBelowZero();
        characters();
        grammar();
        casts();
        limits();
        Check.end();
    }

    private static void putting() {
        MirrorDesk desk = Desks.stopped();
        int[] bad = {0, 9, 10, 31, 127, 128, 255, 65535};
        for (int c : bad) {
            Check.isFalse("put " + c, desk.put((char) c));
        }
        Check.same("nothing was put", desk.count(0), 0);
        for (int c = 32; c < 72; c++) {
            Check.isTrue("put " + c, desk.put((char) c));
        }
        Check.same("forty were put", desk.count(0), 40);
        Check.isFalse("a forty-first", desk.put('a'));
        Check.same("eval", desk.eval(0), Desks.ILL_FORMED);
        Check.same("the text is empty then", desk.count(0), 0);
        for (int c = 72; c < 127; c++) {
            if (c == 112) {
                desk.eval(1);
            }
            Check.isTrue("put " + c, desk.put((char) c));
        }
        MirrorDesk running = new MirrorDesk();
        Check.isTrue("put while it runs", running.put('1'));
        Check.same("eval while it runs", running.eval(0), -1);
        running.run(false);
        Check.same("no evaluation 4", running.eval(4), -1);
        Check.same("no evaluation -1", running.eval(-1), -1);
        Check.same("the text stays", running.count(0), 1);
        Check.same("and is read later", running.eval(3), Desks.VALUE);
        Check.same("with its value", running.value(3), 1);
    }

    private static void state(String text, int due) {
        MirrorDesk desk = new MirrorDesk();
        desk.addClass(-1);
        desk.addClass(0);
        desk.addField(0, 0, Desks.INT);
        desk.addVariable(0, Desks.INT);
        desk.addVariable(1, Desks.BOOLEAN);
        desk.addVariable(2, Desks.A);
        desk.addVariable(3, Desks.INTS);
        desk.addVariable(4, Desks.ARRAY_OF_A);
        desk.addVariable(26, Desks.B);
        desk.run(false);
        Check.same("state of \"" + text + "\"", Desks.eval(desk, 0, text), due);
        Check.same("seen", desk.look(0, 0), due);
        if (due == Desks.ILL_FORMED || due == Desks.ILL_TYPED) {
            Check.same("no kind of \"" + text + "\"", desk.look(0, 1), -1);
            Check.same("no request for \"" + text + "\"", desk.count(2), 0);
        }
    }

    private static void good(String... texts) {
        for (String text : texts) {
            state(text, Desks.VALUE);
        }
    }

    private static void waiting(String... texts) {
        for (String text : texts) {
            state(text, Desks.WAITS);
        }
    }

    private static void illFormed(String... texts) {
        for (String text : texts) {
            state(text, Desks.ILL_FORMED);
        }
    }

    private static void illTyped(String... texts) {
        for (String text : texts) {
            state(text, Desks.ILL_TYPED);
        }
    }

    private static void tokens() {
        illFormed("", " ", "                                        ", "G", "Z", "L", "_", "$", "#", "@",
                "\"", "\\", "`", "{", "}", ",", ";", "1,2", "a;", "aa", "ab", "foo", "True", "trueb",
                "nulls", "Int", "class", "new", "thisa", "a b", "a1", "a 1", "1 a", "1a", "1e1", "0x1",
                "1l", "1f", "1LL", "1La", "1 L", "1L1", "1.5", "1.", ".1", "1Linstanceof A",
                "1instanceof A", "cinstanceof A", "c instanceofA", "a=1", "a = 1", "a= =1", "a! =1",
                "a===1", "a!==1", "a<=>1", "a=>1", "a=<1", "a<<<1", "a>>>>1", "a<<=1", "a>>=1", "a+=1",
                "b&&&b", "b|||b", "b& &b", "b| |b", "a< <1", "a> >1", "a>> >1", "a> >>1", "a< =1",
                "a> =1", "a**1", "a//1", "a^^1", "tr ue", "1 2");
        good("1", " 1 ", "true", "false", "null", "'a'", "1<2", "1<=2", "1>2", "1>=2", "1<<2", "1>>2",
                "1>>>2", "1==2", "1!=2", "1&2", "1|2", "1^2", "true&&true", "false||true", "! true",
                "1<-2", "1>-2", "1--1", "1++1", "1+-+-1", "1-~1", "!!true", "  1   +   2  ", "1>>-1",
                "(  1  )", "( int ) 1", "(A)null", "( A [ ] )null", "null instanceof A", "1>>>-1",
                "1==-1", "1!=-1", "1&-1", "1*-1", "1/-1", "1%-1", "true?1:2", "true ? 1 : 2");
        waiting("a", "b", "c", "d", "e", "this", "c . a", "d . length", "d [ 0 ]", "c instanceof B",
                "this==c", "this instanceof A", "(a)", "a<-a", "a>-a");
        illTyped("z", "'a'instanceof A", "1 instanceof A", "1.a", "1 .a", "1L.a", "1.length", "1[0]",
                "'a'.a", "'a'[1]", "true.a", "null.a", "null.length", "null[0]");
    }

    private static void numbers() {
        good("0", "2147483647", "0000000000", "0000000001", "0000000009", "0L", "2147483648L",
                "999999999999999999L", "000000000000000001L", "0000000000000000L");
        illFormed("2147483648", "2147483649", "3000000000", "9999999999", "00000000001", "00000000000",
                "10000000000", "1000000000000000000L", "0000000000000000000L", "99999999999999999999",
                "00000000000000000001", "0000000000000000001L", "+2147483648", "~2147483648");
        MirrorDesk desk = Desks.stopped();
        Desks.eval(desk, 0, "0000000017");
        Check.same("zeros ahead do not make it octal", desk.value(0), 17);
        Desks.eval(desk, 0, "999999999999999999L");
        Check.same("the largest long that can be written", desk.value(0), 999999999999999999L);
        Desks.eval(desk, 0, "2147483648L");
        Check.same("a long", desk.value(0), 2147483648L);
        Check.same("a long's kind", desk.look(0, 1), Desks.LONG);
    }

    private static void largestIntBelowZero() {
        good("-2147483648", "- 2147483648", " -   2147483648 ", "--2147483648", "- -2147483648",
                "~-2147483648", "1- -2147483648", "1--2147483648", "1+-2147483648", "-2147483648-1",
                "(-2147483648)", "(int)-2147483648", "-2147483648*2", "-2147483648<1", "-2147483647",
                "-2147483648==-2147483648", "true?-2147483648:1", "-2147483648L");
        illFormed("-(2147483648)", "-( 2147483648 )", "1-2147483648", "1 - 2147483648", "-+2147483648",
                "-~2147483648", "-(int)2147483648", "-2147483648.a", "-2147483648 . length",
                "-2147483648[0]", "-02147483648", "-2147483649", "2147483648-1", "!2147483648",
                "d[2147483648]", "(-2147483648", "-2147483648)", "-2147483648 2147483648",
                "-1*2147483648", "-1-2147483648", "a-2147483648");
        illTyped("-2147483648 instanceof A", "-2147483648?1:2", "!-2147483648", "-2147483648&&true");
        waiting("d[-2147483648]", "a--2147483648", "a*-2147483648");
        MirrorDesk desk = Desks.stopped();
        Desks.eval(desk, 0, "- 2147483648");
        Check.same("it is below zero", desk.value(0), -2147483648L);
        Check.same("and an int", desk.look(0, 1), Desks.INT);
        Desks.eval(desk, 0, "--2147483648");
        Check.same("it wraps", desk.value(0), -2147483648L);
        Desks.eval(desk, 0, "-2147483648-1");
        Check.same("it wraps downwards", desk.value(0), 2147483647L);
    }

    private static void characters() {
        illFormed("'", "''", "'''", "'a", "'ab'", "'\\'", "'\\n'", "'\\\\'", "a'", "'a''b'", "' ", "'a '",
                "' a'");
        good("' '", "'\"'", "'a'", "'0'", "'~'", "'('", "')'", "'?'", "'('+')'", "'['", "'/'", "'L'");
        for (char c = 32; c < 127; c++) {
            if (c != '\'' && c != '\\') {
                MirrorDesk desk = Desks.stopped();
                Desks.eval(desk, 0, "'" + c + "'");
                Check.same("value of '" + c + "'", desk.value(0), c);
                Check.same("kind of '" + c + "'", desk.look(0, 1), Desks.CHAR);
            }
        }
    }

    private static void grammar() {
        illFormed("+", "1+", "*1", "1*", "/1", "%1", "()", "(", ")", "(1", "1)", "((1)", "(1))", "[1]", "d[",
                "d[]", "d[1", "d]1[", "d[1)", "d(1]", "(1]", "d.", "d..length", ".length", "length", "d.d.",
                "d.[0]", "d.1", "d.'a'", "d.(a)", "c.A", "c.this", "c.int", "c.true", "c.null",
                "c.instanceof", "int", "long", "boolean", "char", "A", "A.a", "A[0]", "int.length",
                "instanceof", "c instanceof", "instanceof A", "c instanceof a", "c instanceof int",
                "c instanceof A[]", "c instanceof (A)", "c instanceof null", "c instanceof A a",
                "c instanceof A.a", "c instanceof A[0]", "c instanceof -A", "d instanceof int[]", "?",
                "c instanceof A-1", "c instanceof A+a", "c instanceof A*1", "c instanceof A<<1",
                "b==c instanceof A-1", "b?c instanceof A>>>1:b", "!c instanceof A/1",
                "b&&c instanceof A%1==b", "c instanceof A!b", "c instanceof A instanceof A+1",
                "b?", "b?1", "b?1:", "b:1", "b?:1", "?1:2", "b?1:2:3", "b?1,2", "b?1?2:3", "a!b", "a~b",
                "a!", "1~", "(1)2", "(a)a", "(1)a", "(a)!b", "(a)~a", "a(b)", "(a)(a)", "this this",
                "a a", "1'a'", "a null", "d[0]0", "d[0]a", "&&b", "b&&", "||", "==1", "1==", "1<", "<1",
                "<<1", "1!=", "b?b:b?b", "a.b c", "()1", "-", "!", "~", "--", "!!");
        good("1+2*3", "(1+2)*3", "-(1)", "+1", "~1", "!true", "-+~1", "!!true", "true?false?1:2:3",
                "true?1:false?2:3", "1<2==true", "true==1<2", "1<2&true", "1+2<<3", "1<<2+3",
                "true||false&&false", "true|false^true&true", "null==null", "null instanceof A==false");
        waiting("c.a", "(c).a", "((c)).a", "c.a+1", "d[a]", "d[d[0]]", "e[0].a", "e[e.length-1].a",
                "d[b?0:1]", "d.length", "(d).length", "(d)[0]", "-d[0]", "!b", "(a)+a", "(a)-a", "a- -a",
                "c instanceof A&&b", "c instanceof A==b",
                "c instanceof A!=b", "b==c instanceof A", "c instanceof A&b", "c instanceof A^b|b",
                "c instanceof A||b", "c instanceof A?1:2", "b?b?1:2:3", "b?1:b?2:3", "b?(b?1:2):3");
        illTyped("c.a.a", "c.a[0]", "!c instanceof A", "c instanceof A instanceof A", "-b", "1<2<3",
                "c instanceof A<1", "1?2:3", "b?1:c");
    }

    private static void casts() {
        good("(int)1", "(long)1", "(char)1", "(boolean)true", "(A)null", "(B)null", "(int[])null",
                "(A[])null", "(int)'a'", "(int)-1", "(int)+1", "(char)~1", "(int)(1)", "(int)(long)1",
                "-(int)1", "-(int)-1", "(int)1+1", "(int)1L", "!(boolean)true", "( int [ ] ) null");
        waiting("(A)c", "(B)c", "(A)this", "(int[])d", "(A[])e", "((B)c).a", "(int)c.a", "(int)d[0]");
        illFormed("(int)", "(A)", "(int[])", "(int", "(A 1", "(long[])null", "(char[])null", "int 1",
                "(boolean[])null", "(int[]null", "(int[)null", "(int])null", "(int[0])null", "(int[][])null",
                "(A[]", "(this)1", "(instanceof)1", "(null)1", "(length)1", "(A.a)c", "(A+B)c", "(int)*1", "(int)int",
                "((int))1", "(int 1)", "(G)null", "(Z)null", "(L)1", "(G[])null", "null instanceof G",
                 "(A)[0]", "(A).a", "((A))c", "(A,B)c", "(A&B)c", "(true)1");
        illTyped("(A)+a", "(A)-1", "(A)1", "(int)null", "(int)true", "(boolean)1", "(C)null", "(C[])null",
                "(F)c", "(A)d", "(int[])c", "(A[])c", "(A)e", "(B[])e", "(int[])e", "(A)c.a", "(char)b");
    }

    private static void limits() {
        good("((((((1))))))", "((((((1))))))+(((1)))", "1+1+1+1+1+1+1+1+1+1+1+1",
                "true?1:true?1:true?1:true?1:1", "-1+1+1+1+1+1+1+1+1+1+1+1", "~~~~~~~~~~~~~~~~~~~~~~~1",
                "(int)(int)(int)(int)(int)(int)(int)1", "((((((int)1)))))", "((((((A[])null)))))");
        illFormed("(((((((1)))))))", "(((((((a)))))))", "((((((()))))))", "((((((())))))",
                "d[d[d[d[d[d[d[]]]]]]]",
                "1+1+1+1+1+1+1+1+1+1+1+1+1",
                "true?1:true?1:true?1:true?1:true?1:1", "b?1:b?1:b?1:b?1:b?1:1", "b?b?b?b?b?1:2:3:4:5:6",
                "~~~~~~~~~~~~~~~~~~~~~~~~1", "--1+1+1+1+1+1+1+1+1+1+1+1", "((((((d[0]))))))",
                "d[d[d[d[d[d[d[0]]]]]]]", "(((d[d[d[(0)]]])))");
        waiting("d[d[d[d[d[d[0]]]]]]", "((((((d)[0])))))", "((((((d))))))[0]", "(((((d[0])))))",
                "(((d[d[d[0]]])))", "b?b?b?b?1:2:3:4:5", "b?1:b?1:b?1:b?1:1", "d[0]+d[0]+d[0]+d[0]",
                "((((((A[])e)[0])))).a", "((((((int[])d))))).length", "(A[])(((((e)))))",
                "(((((((int)a))))))");
        String blanks = "                                        ";
        String[] ends = {"1", "1L", "'1'", "true", "(1)", "null", "1>>>1", "-2147483648"};
        for (String end : ends) {
            good(blanks.substring(end.length()) + end, end + blanks.substring(end.length()));
        }
        String[] badEnds = {"1+", "1>>>", "'1", "'", "-", "tru", "1La", "2147483648", "1="};
        for (String end : badEnds) {
            illFormed(blanks.substring(end.length()) + end, end + blanks.substring(end.length()));
        }
        Check.same("forty blanks and signs",
                Desks.eval(Desks.stopped(), 0, "1 +1 +1 +1 +1 +1 +1 +1 +1 +1 +1 + 1     "), Desks.VALUE);
    }
}
