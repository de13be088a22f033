/** Promises 8, 9 and 11 to 18: pieces, requests, and the states of evaluations. */
public final class RequestsTest {
    private RequestsTest() {
    }

    public static void main(String[] args) {
        piecesOfEverySort();
        leftToRight();
        onlyWhatIsNeeded();
        whenTheClassIsNeeded();
        whatIsKnown();
        oneRequestForAll();
        leastFirst();
        answersInAnyOrder();
        refusals();
        requestsOfNobody();
        beginningAgain();
        brokenLine();
        brokenLineWhileItRuns();
        runningTarget();
        othersStay();
        wrongArguments();
        emptyText();
        manyRequests();
        lastObject();
        longLineOfClasses();
        Check.end();
    }

    /**
     * A with a: int, b: A, c: int[]; B extends A. Objects 1: an A, 2: a B, 3: three ints, 4: two As.
     * Variables a, b: ints 4 and 2; c: object 1, d: object 2 as an A, e: object 3, f: object 4,
     * g: boolean true, h: null as an A; this: object 2.
     */
    private static MirrorDesk desk() {
        MirrorDesk desk = new MirrorDesk();
        desk.addClass(-1);
        desk.addClass(0);
        desk.addField(0, 0, Desks.INT);
        desk.addField(0, 1, Desks.A);
        desk.addField(0, 2, Desks.INTS);
        desk.make(Desks.A, 0);
        desk.make(Desks.B, 0);
        desk.make(Desks.INTS, 3);
        desk.make(Desks.ARRAY_OF_A, 2);
        int[] kinds = {Desks.INT, Desks.INT, Desks.A, Desks.A, Desks.INTS, Desks.ARRAY_OF_A,
            Desks.BOOLEAN, Desks.A};
        long[] values = {4, 2, 1, 2, 3, 4, 1, 0};
        for (int i = 0; i < kinds.length; i++) {
            desk.addVariable(i, kinds[i]);
            desk.setVariable(i, values[i]);
        }
        desk.addVariable(26, Desks.B);
        desk.setVariable(26, 2);
        desk.setPart(1, 0, 10);
        desk.setPart(1, 1, 2);
        desk.setPart(2, 0, 20);
        desk.setPart(2, 2, 3);
        desk.setPart(3, 0, 100);
        desk.setPart(3, 2, 102);
        desk.setPart(4, 1, 1);
        desk.run(false);
        return desk;
    }

    private static void piecesOfEverySort() {
        MirrorDesk desk = desk();
        Check.same("waits", Desks.eval(desk, 0, "this.c[2]"), Desks.WAITS);
        Desks.request("this", desk, 0, 0, 26, 0, 0);
        Check.same("answered", desk.answer(0), 1);
        Desks.request("its field", desk, 0, 1, 2, 2, 1);
        Check.same("answered", desk.answer(0), 1);
        Desks.request("the length", desk, 0, 3, 3, 0, 2);
        Check.same("answered", desk.answer(0), 1);
        Desks.request("the element", desk, 0, 2, 3, 2, 3);
        Check.same("no value yet", desk.value(0), 0);
        Check.same("its kind already", desk.look(0, 1), Desks.INT);
        Check.same("answered", desk.answer(0), 1);
        Check.same("value", desk.value(0), 102);
        Desks.counts("so far", desk, 0, 4, 4);
        Desks.eval(desk, 1, "d instanceof B");
        desk.answer(0);
        Desks.request("the class", desk, 0, 4, 2, 0, 5);
        desk.answer(0);
        Check.same("it is one", desk.value(1), 1);
        Desks.eval(desk, 2, "f.length");
        Desks.request("a variable", desk, 0, 0, 5, 0, 6);
        desk.answer(0);
        Desks.request("length alone", desk, 0, 3, 4, 0, 7);
        desk.answer(0);
        Check.same("length", desk.value(2), 2);
    }

    private static void leftToRight() {
        MirrorDesk desk = desk();
        Desks.eval(desk, 0, "e[b]+a");
        int[] sorts = {0, 0, 3, 2, 0};
        int[] of = {4, 1, 3, 3, 0};
        int[] parts = {0, 0, 0, 2, 0};
        for (int i = 0; i < sorts.length; i++) {
            Desks.request("piece " + i, desk, 0, sorts[i], of[i], parts[i], i);
            Check.same("one at a time", desk.count(1), 1);
            desk.answer(0);
        }
        Check.same("value", desk.value(0), 106);
        MirrorDesk other = desk();
        Desks.eval(other, 0, "h.c[a]");
        other.answer(0);
        Check.same("null is used before the index is worked out", other.look(0, 2), 2);
        Check.same("so nothing else is asked for", other.count(2), 1);
        Desks.eval(other, 1, "((int[])null)[a]");
        Check.same("the index is worked out before null is used", other.look(1, 0), Desks.WAITS);
        other.answer(0);
        Check.same("then it is an exception", other.look(1, 2), 2);
        Desks.eval(other, 2, "e[3]");
        other.answer(0);
        Desks.request("the length alone", other, 0, 3, 3, 0, 3);
        other.answer(0);
        Check.same("no element is asked for", other.look(2, 2), 3);
        Check.same("no element was asked for", other.count(2), 4);
    }

    private static void onlyWhatIsNeeded() {
        String[] none = {"false&&g", "true||g", "true?1:a", "false?a:1", "null==null||a==1"};
        for (String text : none) {
            MirrorDesk desk = desk();
            Check.same(text, Desks.eval(desk, 0, text), Desks.VALUE);
            Check.same(text + " asks for nothing", desk.count(2), 0);
        }
        String[] one = {"g||a==1", "!g&&a==1", "g?1:a", "!g?a:1", "true&&g", "false||g", "g&&g", "g|g",
            "g&&!g&&a==1", "g==!g&&a==1"};
        for (String text : one) {
            MirrorDesk desk = desk();
            Check.same(text, Desks.work(desk, 0, text), Desks.VALUE);
            Check.same(text + " asks for one", desk.count(2), 1);
        }
        String[] two = {"g|a==1", "!g&a==1", "g&&a==1", "!g||a==1", "g?a:1", "!g?1:a", "a+b", "b/a",
            "g?a:b", "h==null?a:b"};
        for (String text : two) {
            MirrorDesk desk = desk();
            Check.same(text, Desks.work(desk, 0, text), Desks.VALUE);
            Check.same(text + " asks for two", desk.count(2), 2);
        }
        MirrorDesk divided = desk();
        Check.same("1/0+a", Desks.eval(divided, 0, "1/0+a"), Desks.EXCEPTION);
        Check.same("asks for nothing behind an exception", divided.count(2), 0);
        Check.same("a/0 asks first", Desks.eval(divided, 0, "a/0"), Desks.WAITS);
    }

    private static void whenTheClassIsNeeded() {
        String[] texts = {"(A)c", "(A)this", "c instanceof A", "this instanceof A", "this instanceof B",
            "(B)this", "(B)h", "h instanceof B", "h instanceof A", "(int[])e", "(A[])f"};
        for (String text : texts) {
            MirrorDesk desk = desk();
            Check.same(text, Desks.work(desk, 0, text), Desks.VALUE);
            Check.same(text + " needs no class", desk.count(2), 1);
        }
        String[] needy = {"(B)d", "d instanceof B", "c instanceof B", "(B)(A)this", "(A)this instanceof B"};
        for (String text : needy) {
            MirrorDesk desk = desk();
            Check.same(text, Desks.work(desk, 0, text), Desks.VALUE);
            Check.same(text + " needs a class", desk.count(2), 2);
        }
        MirrorDesk desk = desk();
        Check.same("(B)null", Desks.eval(desk, 0, "(B)null"), Desks.VALUE);
        Check.same("null instanceof B", Desks.eval(desk, 0, "null instanceof B"), Desks.VALUE);
        Check.same("null is asked nothing", desk.count(2), 0);
        Desks.eval(desk, 1, "(B)c");
        desk.answer(0);
        Desks.request("class of object 1", desk, 0, 4, 1, 0, 1);
        Check.same("kind while it waits", desk.look(1, 1), Desks.B);
        Check.same("no exception yet", desk.look(1, 2), 0);
        desk.answer(0);
        Check.same("it is no B", desk.look(1, 2), 4);
        Check.same("c instanceof B knows all", Desks.eval(desk, 2, "c instanceof B"), Desks.VALUE);
        Check.same("c is no B", desk.value(2), 0);
    }

    private static void whatIsKnown() {
        MirrorDesk desk = desk();
        Desks.work(desk, 0, "e[0]");
        Desks.counts("three pieces", desk, 0, 3, 3);
        Check.same("known", Desks.eval(desk, 1, "e[0]*2"), Desks.VALUE);
        Check.same("length is known", Desks.eval(desk, 1, "e.length"), Desks.VALUE);
        Check.same("again", desk.again(0), Desks.VALUE);
        Check.same("e[1] is not known", Desks.eval(desk, 2, "e[1]"), Desks.WAITS);
        Desks.counts("one more", desk, 1, 4, 3);
        Check.same("an element that is not there", Desks.eval(desk, 3, "e[5]"), Desks.EXCEPTION);
        desk.run(true);
        Desks.counts("nothing is known when it runs", desk, 0, 4, 0);
        desk.run(false);
        Desks.counts("nor when it is stopped again", desk, 0, 4, 0);
        Check.same("it is asked for again", desk.again(0), Desks.WAITS);
        Desks.request("the same variable", desk, 0, 0, 4, 0, 4);
    }

    private static void oneRequestForAll() {
        MirrorDesk desk = desk();
        for (int e = 0; e < 4; e++) {
            Check.same("waits", Desks.eval(desk, e, "a+" + e), Desks.WAITS);
        }
        Desks.counts("one request", desk, 1, 1, 0);
        Check.same("for four", desk.answer(0), 4);
        for (int e = 0; e < 4; e++) {
            Check.same("state", desk.look(e, 0), Desks.VALUE);
            Check.same("value", desk.value(e), 4 + e);
        }
        Desks.counts("all is known", desk, 0, 1, 1);
        for (int e = 0; e < 4; e++) {
            Desks.eval(desk, e, "c.a");
        }
        Check.same("all refused", desk.refuse(0), 4);
        for (int e = 0; e < 4; e++) {
            Check.same("refused", desk.look(e, 0), Desks.REFUSED);
        }
    }

    private static void leastFirst() {
        MirrorDesk desk = desk();
        Desks.eval(desk, 2, "g?b:1");
        Desks.eval(desk, 0, "g?c:d");
        Desks.eval(desk, 3, "g?b:1");
        Desks.eval(desk, 1, "g?a:1");
        Check.same("four wait", desk.answer(0), 4);
        Check.same("three requests", desk.count(1), 3);
        Desks.request("0's", desk, 0, 0, 2, 0, 1);
        Desks.request("1's", desk, 1, 0, 0, 0, 2);
        Desks.request("2's and 3's", desk, 2, 0, 1, 0, 3);
        Check.same("two wait for the last", desk.answer(2), 2);
        Check.same("the others wait", desk.look(0, 0), Desks.WAITS);
        Check.same("the others wait", desk.look(1, 0), Desks.WAITS);
    }

    private static void answersInAnyOrder() {
        MirrorDesk desk = desk();
        Desks.eval(desk, 0, "a+b");
        Desks.eval(desk, 1, "b+a");
        Desks.eval(desk, 2, "c.a");
        Desks.counts("three", desk, 3, 3, 0);
        Check.same("the middle one", desk.answer(1), 1);
        Desks.counts("b-a waits for a", desk, 2, 3, 1);
        Desks.request("first", desk, 0, 0, 0, 0, 0);
        Desks.request("second", desk, 1, 0, 2, 0, 2);
        Check.same("the last one", desk.answer(1), 1);
        Desks.request("new at the end", desk, 1, 1, 1, 0, 3);
        Check.same("both", desk.answer(0), 2);
        Check.same("a+b", desk.value(0), 6);
        Check.same("b+a", desk.value(1), 6);
        Check.same("c.a waits", desk.look(2, 0), Desks.WAITS);
        Check.same("no second one", desk.answer(1), -1);
        Check.same("its field", desk.answer(0), 1);
        Check.same("c.a", desk.value(2), 10);
    }

    private static void refusals() {
        MirrorDesk desk = desk();
        Desks.eval(desk, 0, "a+b");
        Desks.eval(desk, 1, "b+a");
        Check.same("b refused", desk.refuse(1), 1);
        Check.same("1 is refused", desk.look(1, 0), Desks.REFUSED);
        Check.same("its kind", desk.look(1, 1), Desks.INT);
        Check.same("no exception", desk.look(1, 2), 0);
        Check.same("no value", desk.value(1), 0);
        Check.same("0 waits", desk.look(0, 0), Desks.WAITS);
        Desks.counts("a waits", desk, 1, 2, 0);
        Check.same("a answered", desk.answer(0), 1);
        Check.same("1 stays refused", desk.look(1, 0), Desks.REFUSED);
        Desks.request("b is asked for again", desk, 0, 0, 1, 0, 2);
        Check.same("1 begins again and waits for it", desk.again(1), Desks.WAITS);
        Check.same("no new request", desk.count(2), 3);
        Check.same("both wait", desk.answer(0), 2);
        Check.same("both are done", desk.value(0) + desk.value(1), 12);
        Check.same("nothing to refuse", desk.refuse(0), -1);
    }

    private static void requestsOfNobody() {
        MirrorDesk desk = desk();
        Desks.eval(desk, 0, "a");
        Check.same("a new text", Desks.eval(desk, 0, "b"), Desks.WAITS);
        Check.same("another one", Desks.eval(desk, 0, "1"), Desks.VALUE);
        Desks.counts("both requests stay", desk, 2, 2, 0);
        Check.same("answered for nobody", desk.answer(0), 0);
        Desks.counts("but known", desk, 1, 2, 1);
        Check.same("so a is at hand", Desks.eval(desk, 1, "a"), Desks.VALUE);
        Check.same("b has a request that waits", Desks.eval(desk, 1, "b*a"), Desks.WAITS);
        Check.same("no other is sent", desk.count(2), 2);
        Check.same("answered for one", desk.answer(0), 1);
        Check.same("done", desk.value(1), 8);
        Check.same("the first is what it was", desk.value(0), 1);
        Desks.eval(desk, 2, "g");
        Desks.eval(desk, 2, ")");
        Check.same("refused for nobody", desk.refuse(0), 0);
        Check.same("ill formed stays", desk.look(2, 0), Desks.ILL_FORMED);
        Desks.counts("refused is not known", desk, 0, 3, 2);
    }

    private static void beginningAgain() {
        MirrorDesk desk = desk();
        Check.same("no text", desk.again(0), -1);
        Check.same("waits", Desks.eval(desk, 0, "a+b"), Desks.WAITS);
        Check.same("waits again", desk.again(0), Desks.WAITS);
        Desks.counts("the same request", desk, 1, 1, 0);
        Check.same("waited for by one", desk.answer(0), 1);
        Check.same("for b", desk.again(0), Desks.WAITS);
        Desks.counts("b's request", desk, 1, 2, 1);
        desk.answer(0);
        Check.same("done", desk.value(0), 6);
        Check.same("again", desk.again(0), Desks.VALUE);
        Desks.write(desk, "7");
        Check.same("again leaves what is written", desk.again(0), Desks.VALUE);
        Check.same("it is there", desk.count(0), 1);
        Check.same("an old value", desk.value(0), 6);
        Check.same("for eval", desk.eval(1), Desks.VALUE);
        Check.same("ill typed", Desks.eval(desk, 2, "q"), Desks.ILL_TYPED);
        Check.same("ill typed again", desk.again(2), Desks.ILL_TYPED);
        Check.same("exception", Desks.eval(desk, 2, "1/0"), Desks.EXCEPTION);
        Check.same("exception again", desk.again(2), Desks.EXCEPTION);
        Check.same("it is gone with a new text", Desks.eval(desk, 2, "1/1"), Desks.VALUE);
        Check.same("no exception", desk.look(2, 2), 0);
        desk.run(true);
        Check.same("while it runs", desk.again(0), -1);
        desk.setVariable(0, 40);
        desk.run(false);
        Check.same("after it ran", desk.again(0), Desks.WAITS);
        desk.answer(0);
        desk.answer(0);
        Check.same("new values", desk.value(0), 42);
    }

    private static void brokenLine() {
        MirrorDesk desk = desk();
        Desks.eval(desk, 0, "a+b");
        Desks.eval(desk, 1, "c.a");
        Desks.eval(desk, 2, "1+1");
        Desks.eval(desk, 3, "z");
        desk.answer(0);
        Desks.counts("before", desk, 2, 3, 1);
        Check.isTrue("break", desk.line(false));
        Desks.counts("nothing waits, nothing is known", desk, 0, 3, 0);
        Check.same("cut", desk.look(0, 0), Desks.CUT);
        Check.same("cut", desk.look(1, 0), Desks.CUT);
        Check.same("its kind stays", desk.look(1, 1), Desks.INT);
        Check.same("no value", desk.value(1), 0);
        Check.same("a value stays", desk.look(2, 0), Desks.VALUE);
        Check.same("ill typed stays", desk.look(3, 0), Desks.ILL_TYPED);
        Check.same("cut at once", desk.again(0), Desks.CUT);
        Check.same("cut at once", Desks.eval(desk, 3, "g&&a==1"), Desks.CUT);
        Check.same("its kind", desk.look(3, 1), Desks.BOOLEAN);
        Check.same("no need of the line", Desks.eval(desk, 3, "true||g"), Desks.VALUE);
        Check.same("still ill formed", Desks.eval(desk, 3, "a+"), Desks.ILL_FORMED);
        Check.same("still ill typed", Desks.eval(desk, 3, "a+g"), Desks.ILL_TYPED);
        Check.same("an exception", Desks.eval(desk, 3, "1/0+a"), Desks.EXCEPTION);
        Desks.counts("nothing was sent", desk, 0, 3, 0);
        Check.same("nothing to answer", desk.answer(0), -1);
        Check.isTrue("made again", desk.line(true));
        Desks.counts("nothing is known", desk, 0, 3, 0);
        Check.same("cut stays", desk.look(0, 0), Desks.CUT);
        Check.same("but begins again", desk.again(0), Desks.WAITS);
        Desks.request("a is asked for again", desk, 0, 0, 0, 0, 3);
        Check.same("answered", desk.answer(0), 1);
        Check.same("the one that was cut waits no more", desk.look(1, 0), Desks.CUT);
    }

    private static void brokenLineWhileItRuns() {
        MirrorDesk desk = desk();
        desk.run(true);
        desk.line(false);
        Check.isTrue("variables can be set", desk.setVariable(0, 9));
        desk.run(false);
        Check.same("cut", Desks.eval(desk, 0, "a"), Desks.CUT);
        desk.run(true);
        Check.same("cut is not stale", desk.look(0, 0), Desks.CUT);
        desk.line(true);
        desk.run(false);
        Check.same("waits", desk.again(0), Desks.WAITS);
        desk.answer(0);
        Check.same("value", desk.value(0), 9);
    }

    private static void runningTarget() {
        MirrorDesk desk = desk();
        Desks.eval(desk, 0, "a+b");
        Desks.eval(desk, 1, "c.a");
        Desks.eval(desk, 2, "a");
        desk.answer(0);
        Check.same("2 is done", desk.look(2, 0), Desks.VALUE);
        desk.run(true);
        Check.same("stale", desk.look(0, 0), Desks.STALE);
        Check.same("stale", desk.look(1, 0), Desks.STALE);
        Check.same("its kind stays", desk.look(0, 1), Desks.INT);
        Check.same("no exception", desk.look(0, 2), 0);
        Check.same("no value", desk.value(0), 0);
        Check.same("a value stays", desk.value(2), 4);
        Desks.counts("nothing is left", desk, 0, 3, 0);
        Check.same("no request", desk.request(0, 0), -1);
        Check.same("nothing to answer", desk.answer(0), -1);
        Check.same("nothing to refuse", desk.refuse(0), -1);
        Check.same("eval is refused", desk.eval(0), -1);
        Check.same("it stays stale", desk.look(0, 0), Desks.STALE);
        desk.line(false);
        Check.same("stale is not cut", desk.look(0, 0), Desks.STALE);
        desk.line(true);
        desk.run(false);
        Check.same("stale when stopped again", desk.look(0, 0), Desks.STALE);
        Check.same("begins again", desk.again(0), Desks.WAITS);
        Desks.request("a", desk, 0, 0, 0, 0, 3);
    }

    private static void othersStay() {
        MirrorDesk desk = desk();
        Desks.eval(desk, 0, "a");
        desk.refuse(0);
        Desks.eval(desk, 1, "1/0");
        Desks.eval(desk, 2, "(");
        Desks.eval(desk, 3, "q");
        int[] due = {Desks.REFUSED, Desks.EXCEPTION, Desks.ILL_FORMED, Desks.ILL_TYPED};
        desk.run(true);
        desk.line(false);
        for (int e = 0; e < 4; e++) {
            Check.same("state " + e, desk.look(e, 0), due[e]);
        }
        Check.same("exception stays", desk.look(1, 2), 1);
        Check.same("its kind", desk.look(1, 1), Desks.INT);
        Check.same("the refused one's kind", desk.look(0, 1), Desks.INT);
        Check.same("no kind of what is ill formed", desk.look(2, 1), -1);
        Check.same("no kind of what is ill typed", desk.look(3, 1), -1);
    }

    private static void wrongArguments() {
        MirrorDesk desk = desk();
        Desks.eval(desk, 0, "a");
        int[] none = {-1, 1, 2, 400, Integer.MIN_VALUE, Integer.MAX_VALUE};
        for (int k : none) {
            for (int what = -1; what < 5; what++) {
                Check.same("request " + k, desk.request(k, what), -1);
            }
            Check.same("answer " + k, desk.answer(k), -1);
            Check.same("refuse " + k, desk.refuse(k), -1);
        }
        int[] noWhat = {-1, 4, 5, Integer.MIN_VALUE, Integer.MAX_VALUE};
        for (int what : noWhat) {
            Check.same("request what " + what, desk.request(0, what), -1);
            Check.same("count " + what, desk.count(what), -1);
        }
        int[] noEvaluation = {-1, 4, Integer.MIN_VALUE, Integer.MAX_VALUE};
        for (int e : noEvaluation) {
            for (int what = -1; what < 4; what++) {
                Check.same("look " + e, desk.look(e, what), -1);
            }
            Check.same("value " + e, desk.value(e), 0);
            Check.same("eval " + e, desk.eval(e), -1);
            Check.same("again " + e, desk.again(e), -1);
        }
        Check.same("look what -1", desk.look(0, -1), -1);
        Check.same("look what 3", desk.look(0, 3), -1);
        Desks.counts("nothing has changed", desk, 1, 1, 0);
        Check.same("it still waits", desk.look(0, 0), Desks.WAITS);
        Check.same("for its request", desk.answer(0), 1);
    }

    private static void emptyText() {
        MirrorDesk desk = Desks.stopped();
        Check.same("empty", desk.eval(0), Desks.ILL_FORMED);
        Check.same("an empty text is a text", desk.again(0), Desks.ILL_FORMED);
        Check.same("no text", desk.again(1), -1);
        Check.same("its state stays", desk.look(1, 0), 0);
        Check.same("a text", Desks.eval(desk, 0, "1"), Desks.VALUE);
        Check.same("empty after it", desk.eval(0), Desks.ILL_FORMED);
        Check.same("no value", desk.value(0), 0);
        Check.same("no kind", desk.look(0, 1), -1);
    }

    /** Requests for all variables are kept, each with its number. */
    private static void manyRequests() {
        MirrorDesk desk = new MirrorDesk();
        for (int name = 0; name < 26; name++) {
            desk.addVariable(name, Desks.INT);
        }
        desk.run(false);
        for (int name = 0; name < 26; name++) {
            Desks.eval(desk, name % 4, String.valueOf((char) ('a' + name)));
        }
        Desks.counts("all wait", desk, 26, 26, 0);
        for (int k = 0; k < 26; k++) {
            Desks.request("request " + k, desk, k, 0, k, 0, k);
        }
        for (int n = 0; n < 22; n++) {
            Check.same("nobody waits", desk.answer(0), 0);
        }
        for (int n = 0; n < 4; n++) {
            Check.same("one waits", desk.answer(3 - n), 1);
        }
        Desks.counts("all are known", desk, 0, 26, 26);
    }

    private static void lastObject() {
        MirrorDesk desk = new MirrorDesk();
        desk.addClass(-1);
        desk.addClass(0);
        desk.addField(0, 25, Desks.LONG);
        for (int object = 1; object < 12; object++) {
            desk.make(Desks.INTS, 5);
        }
        Check.same("the twelfth", desk.make(Desks.B, 0), 12);
        desk.addVariable(25, Desks.A);
        desk.setVariable(25, 12);
        desk.addVariable(24, Desks.INTS);
        desk.setVariable(24, 11);
        desk.setPart(12, 25, Long.MIN_VALUE);
        desk.setPart(11, 4, -5);
        desk.run(false);
        Desks.eval(desk, 3, "((B)z).z+y[4]");
        int[] sorts = {0, 4, 1, 0, 3, 2};
        int[] of = {25, 12, 12, 24, 11, 11};
        int[] parts = {0, 0, 25, 0, 0, 4};
        for (int i = 0; i < sorts.length; i++) {
            Desks.request("piece " + i, desk, 0, sorts[i], of[i], parts[i], i);
            Check.same("answered", desk.answer(0), 1);
        }
        Check.same("value", desk.value(3), Long.MIN_VALUE - 5);
        Desks.counts("six pieces", desk, 0, 6, 6);
    }

    private static void longLineOfClasses() {
        MirrorDesk desk = new MirrorDesk();
        for (int type = 0; type < 6; type++) {
            desk.addClass(type - 1);
        }
        desk.addField(0, 0, Desks.INT);
        Check.isFalse("inherited by five steps", desk.addField(5, 0, Desks.INT));
        desk.make(9, 0);
        Check.isTrue("field of the first class", desk.setPart(1, 0, 6));
        desk.addVariable(0, Desks.A);
        Check.isTrue("an F is an A", desk.setVariable(0, 1));
        desk.addVariable(1, 9);
        desk.setVariable(1, 1);
        desk.run(false);
        Check.same("work", Desks.work(desk, 0, "b.a"), Desks.VALUE);
        Check.same("value", desk.value(0), 6);
        Check.same("an F is related to A", Desks.eval(desk, 0, "b instanceof A"), Desks.VALUE);
        Check.same("an A may be an F", Desks.work(desk, 0, "((F)a).a"), Desks.VALUE);
        Check.same("value", desk.value(0), 6);
    }
}
