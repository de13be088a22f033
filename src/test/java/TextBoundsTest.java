import java.util.Set;

/**
 * The document's sentences on the text and on what is an expression (Terms, promises 10 and 11), one
 * after another: each at its bound, just inside it and just beyond it. The sentence stands above its
 * test.
 */
public final class TextBoundsTest {
    private static final String BLANKS = " ".repeat(40);
    private static final Set<String> WORDS = Set.of("true", "false", "null", "this", "int", "long", "char",
            "boolean", "instanceof", "length");

    private TextBoundsTest() {
    }

    public static void main(String[] args) {
        charactersThatArePut();
        fortyCharacters();
        textIsEmptyThen();
        twentyFourTokens();
        tokensOfEverySort();
        limitOfTokensAlone();
        blanks();
        blanksInside();
        wordsAreLettersTogether();
        otherWords();
        singleLetters();
        otherCharacters();
        numbersAreDigitsTogether();
        letterBehindNumber();
        zerosAhead();
        tenDigits();
        largestInt();
        behindMinusAlone();
        eighteenDigits();
        characters();
        longestSigns();
        sixOpen();
        sixOpenAtOnce();
        bracketsOfCasts();
        fourChoices();
        choicesAnywhere();
        kindsOfCasts();
        whereCastsStand();
        choiceFromTheRight();
        fromLeftToRight();
        fromLeastToMost();
        instanceofEndsItsOperand();
        partsBehindOperands();
        operandsAlone();
        emptyTexts();
        illFormedBeforeIllTyped();
        Check.end();
    }

    /** a: int, b: boolean, c: A with a field a: int, d: int[], e: A[], this: A; all 0, stopped. */
    private static MirrorDesk desk() {
        MirrorDesk desk = new MirrorDesk();
        desk.addClass(-1);
        desk.addField(0, 0, Desks.INT);
        int[] kinds = {Desks.INT, Desks.BOOLEAN, Desks.A, Desks.INTS, Desks.ARRAY_OF_A};
        for (int i = 0; i < kinds.length; i++) {
            desk.addVariable(i, kinds[i]);
        }
        desk.addVariable(26, Desks.A);
        desk.run(false);
        return desk;
    }

    private static void wellFormed(String text, boolean due) {
        MirrorDesk desk = desk();
        int state = Desks.eval(desk, 0, text);
        Check.same("well formed: \"" + text + "\"", state != Desks.ILL_FORMED, due);
        Check.same("the state is seen: \"" + text + "\"", desk.look(0, 0), state);
        if (!due) {
            Check.same("no kind of \"" + text + "\"", desk.look(0, 1), -1);
            Check.same("no value of \"" + text + "\"", desk.value(0), 0);
            Check.same("no request for \"" + text + "\"", desk.count(2), 0);
        }
    }

    private static void good(String... texts) {
        for (String text : texts) {
            wellFormed(text, true);
        }
    }

    private static void bad(String... texts) {
        for (String text : texts) {
            wellFormed(text, false);
        }
    }

    private static void comesTo(String text, int kind, long due) {
        MirrorDesk desk = desk();
        Check.same("state of " + text, Desks.eval(desk, 0, text), Desks.VALUE);
        Check.same("kind of " + text, desk.look(0, 1), kind);
        Check.same("value of " + text, desk.value(0), due);
    }

    // Promise 10: "Appends a character (32 .. 126) to the text that is written: true; false (refused) if
    // it is another one"
    private static void charactersThatArePut() {
        for (int block = 0; block < 65536; block += 256) {
            MirrorDesk desk = new MirrorDesk();
            int put = 0;
            for (int c = block; c < block + 256; c++) {
                boolean due = c >= 32 && c <= 126;
                if (put == 40) {
                    desk = new MirrorDesk();
                    put = 0;
                }
                Check.same("put " + c, desk.put((char) c), due);
                put += due ? 1 : 0;
                Check.same("characters behind " + c, desk.count(0), put);
            }
        }
    }

    // "The text of an expression has at most 40 characters", promise 10: "or 40 are there"
    private static void fortyCharacters() {
        for (int length = 1; length <= 40; length++) {
            MirrorDesk desk = desk();
            Desks.write(desk, BLANKS.substring(0, length - 1));
            Check.isTrue("character " + length, desk.put('7'));
            Check.same("so many are there", desk.count(0), length);
            Check.same("another one", desk.put('8'), length < 40);
            Check.same("so many are there then", desk.count(0), Math.min(length + 1, 40));
            Check.same("they are read", desk.eval(0), Desks.VALUE);
            Check.same("all of them", desk.value(0), length < 40 ? 78 : 7);
        }
        comesTo("1+1+1+1+1+1+1+1+1+1+1+1111111111        ".substring(0, 40), 0, 1111111122);
        comesTo("          1+1+1+1+1+1+1+1+1+1+1+11111111", 0, 11111122);
    }

    // Promise 11: "Evaluation e gets the text that is written, which is empty then"
    private static void textIsEmptyThen() {
        MirrorDesk desk = desk();
        for (int length = 0; length <= 40; length += 8) {
            Desks.write(desk, BLANKS.substring(0, length));
            Check.same("so many are there", desk.count(0), length);
            desk.eval(0);
            Check.same("none is there then", desk.count(0), 0);
        }
        Check.same("a text that is not good goes, too", Desks.eval(desk, 1, "((("), Desks.ILL_FORMED);
        Check.same("none is there then", desk.count(0), 0);
        Desks.write(desk, "12");
        desk.eval(2);
        Desks.write(desk, "3");
        desk.eval(3);
        Check.same("the first text", desk.value(2), 12);
        Check.same("the second one begins anew", desk.value(3), 3);
    }

    private static String repeated(String text, int times, String end) {
        return text.repeat(times) + end;
    }

    // "is read as TOKENS (at most 24)"
    private static void twentyFourTokens() {
        for (int tokens = 1; tokens <= 40; tokens++) {
            wellFormed(repeated("~", tokens - 1, "1"), tokens <= 24);
            wellFormed(repeated("!", tokens - 1, "b"), tokens <= 24);
        }
        for (int numbers = 1; numbers <= 19; numbers++) {
            wellFormed(repeated("1+", numbers - 1, "1"), 2 * numbers - 1 <= 24);
            wellFormed("-" + repeated("1+", numbers - 1, "1"), 2 * numbers <= 24);
            wellFormed("--" + repeated("1+", numbers - 1, "1"), 2 * numbers + 1 <= 24);
        }
    }

    /** A token of each sort (with what must stand beside it) behind as many signs as there can be. */
    private static void tokensOfEverySort() {
        String[] ends = {"1", "2147483647", "0000000000", "1L", "999999999999999999L", "'a'", "true", "this",
            "a", "(1)", "d[a]", "c.a", "d.length", "(int)1", "(A)c", "(int[])d", "1+1", "1<<1", "1>>1",
            "1>>>1", "1<=1", "1>=1", "1==1", "1!=1", "b&&b", "b||b", "c instanceof A", "b?1:1"};
        int[] tokens = {1, 1, 1, 1, 1, 1, 1, 1, 1, 3, 4, 3, 3, 4, 4, 6, 3, 3, 3, 3, 3, 3, 3, 3, 3, 3, 3, 5};
        for (int i = 0; i < ends.length; i++) {
            for (int signs = 22 - tokens[i]; signs <= 26 - tokens[i]; signs++) {
                if (signs + ends[i].length() <= 40) {
                    wellFormed(repeated("~", signs, ends[i]), signs + tokens[i] <= 24);
                }
            }
        }
    }

    /** One token more than 24, where neither another limit nor the grammar speaks against it. */
    private static void limitOfTokensAlone() {
        good("(int[])(int[])(int[])((((null))))", "((1))+((1))+((1))+((1))", "-((1))+((1))+((1))+((1))",
                "-1+1+1+1+1+1+1+1+1+1+1+1", "-1+1+1+1+1+1+1+1+1+1+1+1                ");
        bad("(int[])(int[])(int[])(int[])((null))", "--((1))+((1))+((1))+((1))", "---((1))+((1))+((1))+((1))",
                "-1+1+1+1+1+1+1+1+1+1+1+1+1", "1+1+1+1+1+1+1+1+1+1+1+1+1", "-1+1+1+1+1+1+1+1+1+1+1+1)",
                "-1+1+1+1+1+1+1+1+1+1+1+1 1", "-1+1+1+1+1+1+1+1+1+1+1+1#", "-1+1+1+1+1+1+1+1+1+1+1+1 '");
    }

    // "blanks (32) being passed over"
    private static void blanks() {
        String[][] texts = {{"1", "+", "2"}, {"(", "int", ")", "1"}, {"(", "int", "[", "]", ")", "null"},
            {"(", "A", "[", "]", ")", "null"}, {"true", "?", "1", ":", "2"}, {"null", "instanceof", "A"},
            {"-", "2147483648"}, {"1", ">>>", "2"}, {"!", "true", "&&", "false"}, {"(", "1", ")"}, {"c", ".",
            "a"}, {"d", ".", "length"}, {"d", "[", "1", "]"}, {"'x'", "<=", "' '"}, {"1L"}};
        for (String[] text : texts) {
            for (int blanks = 1; blanks <= 4; blanks++) {
                String between = BLANKS.substring(0, blanks);
                String joined = String.join(between, text);
                good(joined, between + joined, joined + between, between + joined + between);
            }
            String joined = String.join(" ", text);
            good(BLANKS.substring(joined.length()) + joined, joined + BLANKS.substring(joined.length()));
        }
        comesTo(BLANKS.substring(1) + "8", Desks.INT, 8);
        comesTo("8" + BLANKS.substring(1), Desks.INT, 8);
    }

    /** Blanks part words, numbers, signs and characters. */
    private static void blanksInside() {
        String[] texts = {"1 2", "1 L", "12 34", "tr ue", "nul l", "th is", "c instance of A", "d.len gth",
            "(i nt)1", "1< <2", "1> >2", "1> >>2", "1>> >2", "1< =2", "1> =2", "1= =2", "1! =2", "b& &b",
            "b| |b", "' a'", "'a '", "'  '", "'a' 'b'", "a a", "A A", "a 1", "1 a"};
        bad(texts);
        comesTo("' '", Desks.CHAR, 32);
        comesTo("' '+' '", Desks.INT, 64);
    }

    // "a WORD is as many letters as stand together"
    private static void wordsAreLettersTogether() {
        bad("aa", "ab", "truetrue", "atrue", "truea", "Anull", "nullA", "thisa", "notrue", "!nottrue",
                "cinstanceof A", "c instanceofA", "d.lengthlength", "d.alength", "c.aa", "c.aA", "(intint)1",
                "(Aint)1", "(AA)c", "(Aa)c", "aL", "La", "AL", "a1", "true1", "A1");
        good("a", "true", "c instanceof A", "(c)instanceof A", "d.length", "null instanceof A", "!true",
                "(true)", "1<a", "d[a]", "'a'instanceof A", "b?a:a", "b?this:c", "-a", "(int)a");
    }

    /** Stands for a word where it is good, so that what is no word is all that can be wrong there. */
    private static String around(String word, String instead) {
        switch (word) {
            case "int": case "long": case "char":
                return "(" + instead + ")1";
            case "boolean":
                return "(" + instead + ")true";
            case "instanceof":
                return "null " + instead + " A";
            case "length":
                return "d." + instead;
            default:
                return instead;
        }
    }

    private static void otherWord(String word, String instead) {
        boolean known = WORDS.contains(instead) || instead.length() == 1;
        if (!known) {
            wellFormed(around(word, instead), false);
        }
    }

    // "Words are true, false, null, this, int, long, char, boolean, instanceof, length" .. "another word
    // .. likewise"
    private static void otherWords() {
        for (String word : WORDS) {
            good(around(word, word));
            for (int at = 0; at < word.length(); at++) {
                String before = word.substring(0, at);
                String behind = word.substring(at + 1);
                for (char c = 'A'; c <= 'z'; c++) {
                    if (c <= 'Z' || c >= 'a') {
                        otherWord(word, before + c + behind);
                        otherWord(word, before + c + word.charAt(at) + behind);
                    }
                }
                otherWord(word, before + behind);
                otherWord(word, behind + before);
            }
            otherWord(word, word + word);
            otherWord(word, word.toUpperCase());
            otherWord(word, word + "s");
            otherWord(word, "zzzzzzzzzz".substring(0, word.length()));
            otherWord(word, "AAAAAAAAAA".substring(0, word.length()));
        }
        bad("1+ fo", "1+foo", "foo+1", "foo", "1 foo", "c.foo", "d.size", "d.len", "d.lengths", "(foo)1",
                "(double)1", "(short)1", "(byte)1", "(Integer)1", "(void)1", "new", "class", "c.class",
                "super", "super.a", "none", "nil", "yes", "no", "and", "b and b", "b or b", "not b");
    }

    // "a .. z and A .. F"
    private static void singleLetters() {
        for (char c = 'a'; c <= 'z'; c++) {
            good(String.valueOf(c), "c." + c, "(" + c + ")");
            bad("(" + c + ")c", "null instanceof " + c, "(" + c + "[])null");
        }
        for (char c = 'A'; c <= 'Z'; c++) {
            wellFormed("(" + c + ")null", c <= 'F');
            wellFormed("(" + c + "[])null", c <= 'F');
            wellFormed("null instanceof " + c, c <= 'F');
            bad(String.valueOf(c), "c." + c, "-" + c, c + ".a", "d[" + c + "]", c + "+1");
        }
    }

    // "another .. character .. likewise"
    private static void otherCharacters() {
        String signs = "()[].?:+-*/%~!<>=&|^'";
        for (char c = 33; c <= 126; c++) {
            boolean letter = c >= 'a' && c <= 'z' || c >= 'A' && c <= 'Z';
            boolean digit = c >= '0' && c <= '9';
            if (!letter && !digit && signs.indexOf(c) < 0) {
                bad(String.valueOf(c), c + "1", "1" + c, "1" + c + "1", "1 " + c + " 1", "(1" + c + ")",
                        c + "a", "a" + c, "a" + c + "a", "-" + c + "1", "1+" + c + "1", "1+1" + c,
                        "d[0" + c + "]", "c" + c + "a", "1 " + c, c + " 1", "true" + c, "1L" + c, "'a'" + c,
                        "1" + c + "+ 1");
            }
        }
        bad("=", "1=", "=1", "1=1", "a=1", "1 = 1", "\\", "1\\", "'\\'", "_", "a_", "_a", "$", "#1", "1,1",
                "{1}", "1;", "@", "`", "\"", "\"a\"");
    }

    // "a NUMBER is as many digits as stand together, with an L directly behind if one stands there"
    private static void numbersAreDigitsTogether() {
        comesTo("1", Desks.INT, 1);
        comesTo("12", Desks.INT, 12);
        comesTo("1234567890", Desks.INT, 1234567890);
        comesTo("1L", Desks.LONG, 1);
        comesTo("12L", Desks.LONG, 12);
        comesTo("123456789012345678L", Desks.LONG, 123456789012345678L);
        comesTo("0L", Desks.LONG, 0);
        for (char digit = '0'; digit <= '9'; digit++) {
            comesTo(String.valueOf(digit), Desks.INT, digit - '0');
            comesTo("1" + digit + "L", Desks.LONG, 10 + digit - '0');
        }
        bad("1 2", "1 L", "L", "L1", "1L1", "1L 1", "1LL", "1 1L", "1.5", "1.", ".5", "1,0", "1_0", "0x1",
                "1e1");
    }

    // "(no other letter may stand directly behind a number ..)"
    private static void letterBehindNumber() {
        for (char c = 'A'; c <= 'z'; c++) {
            if (c <= 'Z' || c >= 'a') {
                wellFormed("1" + c, c == 'L');
                wellFormed("0" + c, c == 'L');
                wellFormed("2147483647" + c, c == 'L');
                wellFormed("-2147483648" + c, c == 'L');
                wellFormed("1" + c + " instanceof A", c == 'L');
                bad("1L" + c, "1" + c + "instanceof A", "1L" + c + "instanceof A", "1" + c + c);
            }
        }
        bad("1instanceof A", "1Linstanceof A", "1true", "b?1null:1", "b?1L:1Ll");
        good("1 instanceof A", "1L instanceof A", "(1)instanceof A", "1+a", "1L+a", "b?1:a");
    }

    // "zeros ahead are digits"
    private static void zerosAhead() {
        for (int digits = 1; digits <= 22; digits++) {
            String number = "0".repeat(digits - 1) + "7";
            wellFormed(number, digits <= 10);
            wellFormed(number + "L", digits <= 18);
            wellFormed("-" + number, digits <= 10);
            wellFormed("0".repeat(digits), digits <= 10);
            wellFormed("0".repeat(digits) + "L", digits <= 18);
            wellFormed("1+ " + number, digits <= 10);
        }
        comesTo("0000000010", Desks.INT, 10);
        comesTo("010", Desks.INT, 10);
        comesTo("08", Desks.INT, 8);
        comesTo("000000000000000010L", Desks.LONG, 10);
        bad("02147483647", "-02147483648", "00000000000", "00000000001", "0000000000000000001L");
    }

    // "A number without L has at most 10 digits"
    private static void tenDigits() {
        for (int digits = 1; digits <= 22; digits++) {
            String number = "1".repeat(digits);
            wellFormed(number, digits <= 10);
            wellFormed("-" + number, digits <= 10);
            wellFormed("(" + number + ")", digits <= 10);
        }
        comesTo("1111111111", Desks.INT, 1111111111);
        comesTo("-1111111111", Desks.INT, -1111111111);
        // Numbers that come to a small one if they wrap around.
        bad("4294967296", "4294967297", "-4294967297", "18446744073709551616", "18446744073709551617",
                "-18446744073709551617", "9223372036854775808", "184467440737095516160001");
    }

    // "and is at most 2147483647"
    private static void largestInt() {
        comesTo("2147483646", Desks.INT, 2147483646);
        comesTo("2147483647", Desks.INT, 2147483647);
        comesTo("-2147483646", Desks.INT, -2147483646);
        comesTo("-2147483647", Desks.INT, -2147483647);
        bad("2147483648", "2147483649", "2147483650", "3147483647", "2247483647", "4294967295", "9999999999",
                "(2147483648)", "1+2147483648", "2147483648+1", "d[2147483648]", "b?2147483648:1",
                "b?1:2147483648", "(int)2147483648", "(long)2147483648", "+2147483648", "~2147483648");
        comesTo("2147483648L", Desks.LONG, 2147483648L);
        comesTo("-2147483649L", Desks.LONG, -2147483649L);
    }

    // "or it is 2147483648 and stands as a whole behind a - that has only it as its operand (blanks
    // between; not in a bracket)"
    private static void behindMinusAlone() {
        comesTo("-2147483648", Desks.INT, -2147483648L);
        comesTo("- 2147483648", Desks.INT, -2147483648L);
        comesTo("-" + BLANKS.substring(11) + "2147483648", Desks.INT, -2147483648L);
        comesTo("(-2147483648)", Desks.INT, -2147483648L);
        comesTo("--2147483648", Desks.INT, -2147483648L);
        comesTo("~-2147483648", Desks.INT, 2147483647);
        comesTo("+-2147483648", Desks.INT, -2147483648L);
        comesTo("(long)-2147483648", Desks.LONG, -2147483648L);
        comesTo("(char)-2147483648", Desks.CHAR, 0);
        comesTo("1--2147483648", Desks.INT, -2147483647);
        comesTo("-2147483648+1", Desks.INT, -2147483647);
        comesTo("-2147483648-1", Desks.INT, 2147483647);
        comesTo("-2147483648*-2147483648", Desks.INT, 0);
        comesTo("-2147483648==-2147483648", Desks.BOOLEAN, 1);
        comesTo("true?-2147483648:-2147483648", Desks.INT, -2147483648L);
        good("d[-2147483648]", "b?-2147483648:1", "a - - 2147483648", "-2147483648 instanceof A");
        bad("-(2147483648)", "-( 2147483648 )", "-((2147483648))", "(-(2147483648))", "1-2147483648",
                "1 - 2147483648", "a-2147483648", "(1)-2147483648", "d[0]-2147483648", "'a'-2147483648",
                "d.length-2147483648", "-1-2147483648", "-+2147483648", "-~2147483648", "- + 2147483648",
                "-(int)2147483648", "-(long)2147483648", "-2147483648.a", "-2147483648.length",
                "-2147483648[0]", "-2147483649", "-2147483650", "-4294967296", "-9999999999", "-02147483648",
                "-21474836480", "-21474836 48", "- 2147483648 2147483648", "!2147483648", "~2147483648",
                "1--2147483649", "-1*2147483648", "b?-1:2147483648", "(A)-2147483648.a");
    }

    // "one with L has at most 18 digits"
    private static void eighteenDigits() {
        for (int digits = 1; digits <= 24; digits++) {
            wellFormed("9".repeat(digits) + "L", digits <= 18);
            wellFormed("-" + "9".repeat(digits) + "L", digits <= 18);
            wellFormed("1".repeat(digits) + "L", digits <= 18);
        }
        comesTo("99999999999999999L", Desks.LONG, 99999999999999999L);
        comesTo("999999999999999999L", Desks.LONG, 999999999999999999L);
        comesTo("-999999999999999999L", Desks.LONG, -999999999999999999L);
        comesTo("100000000000000000L", Desks.LONG, 100000000000000000L);
        bad("1000000000000000000L", "9223372036854775807L", "-9223372036854775808L", "18446744073709551616L",
                "0999999999999999999L");
    }

    // "a CHARACTER is ' any character but ' and \ and then '"
    private static void characters() {
        for (char c = 32; c <= 126; c++) {
            boolean due = c != '\'' && c != '\\';
            wellFormed("'" + c + "'", due);
            if (due) {
                comesTo("'" + c + "'", Desks.CHAR, c);
                comesTo("1+'" + c + "'+1", Desks.INT, c + 2);
                bad("'" + c, "'" + c + c, "'" + c + c + "'", "(" + "'" + c + ")", "('" + c + "))",
                        "'" + c + " '", "' " + c + "'x", "'" + c + "''", "''" + c + "'", "'" + c + "+1");
                String end = BLANKS.substring(3) + "'" + c + "'";
                comesTo(end, Desks.CHAR, c);
                bad(BLANKS.substring(2) + "'" + c);
            }
        }
        bad("'", "''", "'''", "''''", "'\\''", "'\\n'", "'\\", "'\\\\'", BLANKS.substring(1) + "'", "1+'",
                "1+''");
        bad(BLANKS.substring(2) + "''");
    }

    // "SIGNS are .. always the longest that stands there"
    private static void longestSigns() {
        String[] good = {"1<2", "1<=2", "1<<2", "1>2", "1>=2", "1>>2", "1>>>2", "1==2", "1!=2", "1&2", "1|2",
            "1^2", "b&&b", "b||b", "b&!b", "b&&!b", "b|!b", "b||!b", "b!=!b", "b==!b", "b&b", "1<-2", "1>>-2",
            "1>>>-2", "1>-2", "1<~2", "1<<~2", "1&~2", "1|~2", "1&+2", "1|-2", "1==-2", "1!=~2", "b^!b",
            "b!=!!b", "b& !b", "b| !b", "1& 2", "1 & 2", "1 | 2", "1| 2", "1 &2", "1 |2", "1< 2", "1> 2",
            "1&(2)", "1|(2)"};
        good(good);
        String[] bad = {"1<<<2", "1<<=2", "1<==2", "1<=<2", "1<=>2", "1><2", "1<>2", "1>>>>2", "1>>=2",
            "1>>>=2", "1>==2", "1===2", "1!==2", "1!2", "1!!2", "1=2", "1=!2", "b=!b", "b=!!b", "1==>2",
            "b&&&b", "b&&&&b", "b|||b", "b||||b", "b&|b", "b|&b", "b^^b", "b!b", "b!&b", "1*/2", "1//2",
            "1**2", "1%%2", "1..2", "c..a", "b??1:2", "b?1::2", "1?:2", "1<!=2", "1=<2", "1=>2", "1+=2",
            "1-=2", "1*=2", "1/=2", "1%=2", "1&=2", "1|=2", "1^=2", "1~=2", "b!===b", "1->2", "1::2"};
        bad(bad);
        comesTo("8>>>1", Desks.INT, 4);
        comesTo("-8>>1", Desks.INT, -4);
        comesTo("-8>>>28", Desks.INT, 15);
        comesTo("1<<3", Desks.INT, 8);
        comesTo("3& 1", Desks.INT, 1);
        comesTo("2| 1", Desks.INT, 3);
        comesTo("6&~2", Desks.INT, 4);
        comesTo("2|~1", Desks.INT, -2);
        comesTo("1<~2", Desks.BOOLEAN, 0);
        comesTo("true&!true", Desks.BOOLEAN, 0);
        comesTo("false|!true", Desks.BOOLEAN, 0);
        comesTo("true==!true", Desks.BOOLEAN, 0);
        comesTo("true!=!true", Desks.BOOLEAN, 1);
    }

    private static String within(String open, String inner, String close, int times) {
        return open.repeat(times) + inner + close.repeat(times);
    }

    // "At most 6 ( and [ are open at once"
    private static void sixOpen() {
        for (int open = 0; open <= 11; open++) {
            wellFormed(within("(", "1", ")", open), open <= 6);
            wellFormed(within("(", "a", ")", open), open <= 6);
            wellFormed(within("-(", "1", ")", open), open <= 6);
        }
        for (int open = 0; open <= 7; open++) {
            wellFormed(within("d[", "0", "]", open), open <= 6);
            wellFormed(within("d[", "(0)", "]", open), open <= 5);
            for (int brackets = 0; brackets <= 9 && brackets + open <= 8; brackets++) {
                wellFormed(within("(", within("d[", "0", "]", open), ")", brackets), open + brackets <= 6);
            }
        }
    }

    /** Brackets that are closed do not count: only those that are open at once. */
    private static void sixOpenAtOnce() {
        good("((((((1))))))+(1)", "(1)+((((((1))))))", "(((1)))+(((1)))+(((1)))", "d[0]+d[0]+d[0]+d[0]",
                "(1)+(1)+(1)+(1)+(1)+(1)", "(((((d[0])))))", "((((((d))))))[0]", "((((((d))))))[(0)]",
                "((((((1)+1)+1)+1)+1)+1)", "(1+(1+(1+(1+(1+(1))))))", "(((((1)+(1)))))", "((((((c)))))).a",
                "((((((b))))))?1:2", "b?((((((1)))))):2", "b?1:((((((2))))))");
        bad("(((((((1)))))))+(1)", "(1)+(((((((1)))))))", "((((((d[0]))))))", "d[((((((0))))))]",
                "(((d[d[d[(0)]]])))", "((((((1)+(1))))))+(((((((1)))))))", "(((((((c))))))).a",
                "b?(((((((1))))))):2", "b?1:(((((((2)))))))", "(((((((b)))))))?1:2", "-(((((((1)))))))");
    }

    // "(those of casts and of their [ ] do not count)"
    private static void bracketsOfCasts() {
        good("((((((int)1)))))", "(((((((int)1))))))", "((((((int)(1))))))", "(int)((((((1))))))",
                "(((((((A)c))))))", "(((((((int[])d))))))", "(((((((A[])e))))))", "(((((((int)(long)1))))))",
                "(int)(int)(int)(int)(int)(int)(int)1", "(int[])((((((d))))))", "(((((((int)a))))))",
                "d[d[d[d[d[d[(int)0]]]]]]", "(((((((A[])e)[0])))))");
        bad("(((((((int)(1)))))))", "((((((((int)1)))))))", "(int)(((((((1)))))))", "(((((((int[])(d)))))))",
                "((((((((A[])e)[0]))))))", "d[d[d[d[d[d[(int)(0)]]]]]]", "((((((((int[])d)))))))",
                "((((((((A)c)))))))");
    }

    // "and there are at most 4 ?"
    private static void fourChoices() {
        for (int choices = 0; choices <= 5; choices++) {
            wellFormed(repeated("b?1:", choices, "1"), choices <= 4);
            wellFormed("b?".repeat(choices) + "1" + ":1".repeat(choices), choices <= 4);
            wellFormed(repeated("true?1:", choices, "1"), choices <= 4);
            wellFormed(repeated("b?1:", choices, "b?1:1"), choices <= 3);
        }
        good("b?b?1:2:b?b?1:2:3", "(b?b:b)?1:b?1:b?1:2", "b?1:b?1:b?1:(b?1:2)", "d[b?0:1]+(b?1:b?1:b?1:2)");
        bad("b?b?1:2:b?b?1:2:b?1:2", "(b?b:b)?1:b?1:b?1:b?1:2", "b?1:b?1:b?1:b?(b?1:2):3",
                "b?1:b?1:b?1:b?1:b?1:b");
    }

    /** A ? counts wherever it stands, but not as a character; and beyond the limit no kind matters. */
    private static void choicesAnywhere() {
        good("b?'?':b?'?':b?'?':b?'?':'?'", "'?'+'?'+'?'+'?'+'?'");
        MirrorDesk desk = desk();
        Check.same("four that are ill typed", Desks.eval(desk, 0, "1?1:1?1:1?1:1?1:1"), Desks.ILL_TYPED);
        Check.same("five that are ill typed", Desks.eval(desk, 0, "1?1:1?1:1?1:1?1:1?1:1"),
                Desks.ILL_FORMED);
        bad("?", "b?", "b?1", "b?1:", "b?:1", "b:1", "b?1:2:3", "b?1?2:3", "?1:2", "b?b?1:2");
    }

    // "casts (K) before an operand of this line, where K is int, long, char, boolean, a class, or int or a
    // class with [ ] behind"
    private static void kindsOfCasts() {
        good("(int)1", "(long)1", "(char)1", "(boolean)b", "(A)c", "(F)c", "(int[])d", "(A[])e", "(F[])e",
                "( int [ ] ) d");
        bad("(long[])d", "(char[])d", "(boolean[])d", "(int[][])d", "(A[][])e", "(null)1", "(true)1",
                "(this)1", "(instanceof)1", "(length)1", "(G)c", "(int[1])d", "(int[a])d", "(int])d",
                "(int[)d", "([]int)d", "(A.a)c", "(-int)1", "(int-)1", "(int,int)1", "(int int)1", "()1",
                "(int[]d", "(int 1", "int)1", "((int))1", "((A))c", "-int)1", "-A)c", "!A)c", "1 int)1",
                "c A)c", "[int]1", "int[]d", "int 1", "A c", "(a[])d");
    }

    // "then + - ~ ! and casts (K) before an operand of this line"
    private static void whereCastsStand() {
        good("(int)-1", "-(int)1", "(int)(long)(char)1", "(int)!b", "!(boolean)!b", "(int)+ +1", "(A)-1",
                "(A)+a", "~(int)~1", "(int)1+(int)1", "(int)d[0]", "(int)c.a", "(int)d.length", "(A)(c)",
                "-+~!b");
        bad("(int)", "(A)", "(int)*1", "(int)/1", "(int)==1", "(int)&b", "(int))1", "1(int)", "1(int)1", "1!",
                "1~", "1-", "1+", "b!", "a!b", "a~b", "(int)?1:2", "(A)instanceof A", "-", "+", "~", "!",
                "--", "(int)-", "(A).a", "(A)[0]", "(A)[]", "-*1", "1+*1", "*1", "/1", "%1", "&1", "|1", "^1",
                "<1", "==1", "&&b", "||b");
        comesTo("(char)-1", Desks.CHAR, 65535);
        comesTo("-(char)-1", Desks.INT, -65535);
        comesTo("(char)65+1", Desks.INT, 66);
    }

    // "C ? X : Y (X any expression, Y again of this line)", "(in each line from left to right, but for the
    // first one)"
    private static void choiceFromTheRight() {
        comesTo("true?1:true?2:3", Desks.INT, 1);
        comesTo("false?1:true?2:3", Desks.INT, 2);
        comesTo("false?1:false?2:3", Desks.INT, 3);
        comesTo("true?true?1:2:3", Desks.INT, 1);
        comesTo("true?false?1:2:3", Desks.INT, 2);
        comesTo("false?false?1:2:3", Desks.INT, 3);
        comesTo("true||true?1:2", Desks.INT, 1);
        comesTo("true?1:2+3", Desks.INT, 1);
        comesTo("false?1:2+3", Desks.INT, 5);
        comesTo("1+(true?1:2)", Desks.INT, 2);
        good("b?b?b:b:b", "b?b:b?b:b", "b||b?b||b:b||b", "(b?b:b)?b:b");
    }

    private static void fromLeftToRight() {
        comesTo("10-3-2", Desks.INT, 5);
        comesTo("100/10/2", Desks.INT, 5);
        comesTo("100/10*2", Desks.INT, 20);
        comesTo("100%7%2", Desks.INT, 0);
        comesTo("7*5%4", Desks.INT, 3);
        comesTo("1<<2<<3", Desks.INT, 32);
        comesTo("-64>>2>>>28", Desks.INT, 15);
        comesTo("1==1==true", Desks.BOOLEAN, 1);
        comesTo("1!=2!=false", Desks.BOOLEAN, 1);
        comesTo("1==2!=true", Desks.BOOLEAN, 1);
        comesTo("true==1<2", Desks.BOOLEAN, 1);
        comesTo("10-(3-2)", Desks.INT, 9);
        comesTo("1-2+3", Desks.INT, 2);
    }

    // "from what binds least to what binds most": each line and the one behind it
    private static void fromLeastToMost() {
        comesTo("true||true?1:2", Desks.INT, 1);
        comesTo("true||false&&false", Desks.BOOLEAN, 1);
        comesTo("false&&false||true", Desks.BOOLEAN, 1);
        comesTo("false&&true|true", Desks.BOOLEAN, 0);
        comesTo("true|false&&false", Desks.BOOLEAN, 0);
        comesTo("1|1^1", Desks.INT, 1);
        comesTo("1^1|1", Desks.INT, 1);
        comesTo("1^1&0", Desks.INT, 1);
        comesTo("0&1^1", Desks.INT, 1);
        comesTo("false&false==false", Desks.BOOLEAN, 0);
        comesTo("false==false&false", Desks.BOOLEAN, 0);
        comesTo("true==1<2", Desks.BOOLEAN, 1);
        comesTo("1<2!=2>=3", Desks.BOOLEAN, 1);
        comesTo("true==null instanceof A", Desks.BOOLEAN, 0);
        comesTo("1<1<<1", Desks.BOOLEAN, 1);
        comesTo("1<<1<=1", Desks.BOOLEAN, 0);
        comesTo("1<<1+1", Desks.INT, 4);
        comesTo("1+1<<1", Desks.INT, 4);
        comesTo("8-4>>1", Desks.INT, 2);
        comesTo("1+2*3", Desks.INT, 7);
        comesTo("2*3+1", Desks.INT, 7);
        comesTo("9-8/4", Desks.INT, 7);
        comesTo("9-8%5", Desks.INT, 6);
        comesTo("~1*3", Desks.INT, -6);
        comesTo("~1+1", Desks.INT, -1);
        comesTo("(char)65535+1", Desks.INT, 65536);
        comesTo("(char)65535*2", Desks.INT, 131070);
        comesTo("!true||true", Desks.BOOLEAN, 1);
        good("-d[0]", "-d.length", "-c.a", "(int)c.a", "(A)e[0]", "!b&&b");
    }

    // "< <= > >= and instanceof A .. F": behind it stands a class, and what is made so is no operand of a
    // line that binds more
    private static void instanceofEndsItsOperand() {
        good("c instanceof A", "c instanceof F", "c instanceof A==b", "c instanceof A&&b",
                "c instanceof A?1:2", "c instanceof A<1", "c instanceof A instanceof A", "1+1 instanceof A",
                "1<<1 instanceof A", "(c instanceof A)", "-1 instanceof A", "1<2 instanceof A",
                "b==c instanceof A");
        bad("c instanceof", "c instanceof a", "c instanceof int", "c instanceof A[]", "c instanceof (A)",
                "c instanceof null", "c instanceof this", "c instanceof 1", "c instanceof A.a",
                "c instanceof A+1", "c instanceof A*1", "c instanceof A<<1", "c instanceof A-1",
                "c instanceof A A", "instanceof A", "(instanceof A)", "c instanceof instanceof A",
                "c instanceof -A", "c instanceof !A", "c instanceof G", "c instanceof A c",
                "c instanceof A 1", "c instanceof A(1)");
    }

    // "then behind an operand . and a field's name, . length, [ X ]"
    private static void partsBehindOperands() {
        good("c.a", "c.z", "d.length", "d[0]", "c.a.a", "c.a.length", "d[0][0]", "d.length.a", "(c).a",
                "this.a", "1.a", "1 .a", "1L.a", "'a'.a", "true.a", "null.a", "null.length", "null[0]",
                "(1)[0]", "e[0].a[1].b", "d[b?0:1]", "d[b||b?0:1]", "-c.a", "d[d[0]+1]", "c . a", "d [ 0 ]",
                "d . length");
        bad("c.", "c..a", "c.1", "c.(a)", "c.[0]", "c.A", "c.this", "c.true", "c.int", "c.null",
                "c.instanceof", "c.-a", "c.'a'", "c. .a", ".a", ".length", "d.length[", "d[", "d[]", "d[0",
                "d[0)", "d(0]", "d(0)", "d]0[", "[0]", "d[0 1]", "d[0,1]", "d[0]]", "c.a a", "d[0]1",
                "length", "length.a", "d length", "-.a", "(-).a");
    }

    // "Operands are numbers, characters, true, false, null, this, variables, and ( X )."
    private static void operandsAlone() {
        good("1", "1L", "'a'", "true", "false", "null", "this", "a", "z", "(1)", "(a)", "((a))", "(b?1:2)");
        bad("int", "long", "char", "boolean", "instanceof", "length", "A", "F", "G", "()", "(", ")", "(1",
                "1)", "((1)", "(1))", "[1]", "[", "]", "(]", "[)", "1 1", "a a", "1a", "a 1", "(1)(1)",
                "(a)1", "1(a)", "(1)a", "a(1)", "true false", "null null", "this this", "'a''b'", "(1,2)",
                ".", ":", "1:1", "+", "1+", "1 +");
    }

    // "A text that is none is ILL FORMED (an empty one, too ..)"
    private static void emptyTexts() {
        for (int blanks = 0; blanks <= 40; blanks++) {
            wellFormed(BLANKS.substring(0, blanks), false);
        }
        good(BLANKS.substring(1) + "1");
    }

    /** A text that is none is ill formed, whatever the kinds in it; one that is one can be ill typed. */
    private static void illFormedBeforeIllTyped() {
        String[] illTyped = {"q", "!1", "-b", "1&&1", "c.q", "(F)c", "q+1", "1?2:3"};
        for (String text : illTyped) {
            Check.same("ill typed: " + text, Desks.eval(desk(), 0, text), Desks.ILL_TYPED);
            Check.same("no expression: " + text + "+", Desks.eval(desk(), 0, text + "+"), Desks.ILL_FORMED);
            Check.same("no expression: (" + text, Desks.eval(desk(), 0, "(" + text), Desks.ILL_FORMED);
            Check.same("no expression: " + text + "#", Desks.eval(desk(), 0, text + "#"), Desks.ILL_FORMED);
        }
    }
}
