/**
 * The document's sentences on pieces, evaluations and requests (Terms, promises 8, 9 and 11 to 18), one
 * after another: each at its bound, just inside it and just beyond it. The sentence stands above its test.
 */
public final class RequestBoundsTest {
    private static final int[] FAR = {256, 65536, Integer.MIN_VALUE, Integer.MAX_VALUE};

    private RequestBoundsTest() {
    }

    public static void main(String[] args) {
        lastCall();
        variablesAskedFor();
        objectsAskedFor();
        fieldsAskedFor();
        elementsAskedFor();
        lengthBeforeElement();
        classesAskedFor();
        onlyWhatIsNeeded();
        knownWhileStopped();
        knownWhileWhole();
        knownForNobody();
        refusedIsNotKnown();
        fourEvaluations();
        eachItsText();
        everyState();
        oneRequestForAPiece();
        atTheEndOfTheList();
        nothingIsSentOverABrokenLine();
        sameRequestAgain();
        untilItWaitsAnew();
        leastGoesOnFirst();
        doneInOneAnswer();
        refusedOnesAlone();
        allFourAreCut();
        allFourAreStale();
        whatDoesNotWaitStays();
        requestsOfNobodyStay();
        refusedEval();
        refusedAgain();
        againWhileItWaits();
        requestsByNumber();
        whatARequestTells();
        sentBefore();
        answers();
        refusals();
        looks();
        kindsThatAreSeen();
        exceptionsThatAreSeen();
        values();
        counts();
        countOfPieces();
        aLongList();
        Check.end();
    }

    /**
     * A with a, b: int and c: A; B extends A. Objects 1: an A, 2: a B, 3: three ints, 4: two As. Variables
     * a .. f: ints 1 .. 6, g: true, o: object 1, p: object 2 as an A, q: object 3, r: object 4, n: null as an
     * A; this: object 2 as a B.
     */
    private static MirrorDesk desk() {
        MirrorDesk desk = new MirrorDesk();
        desk.addClass(-1);
        desk.addClass(0);
        desk.addField(0, 0, Desks.INT);
        desk.addField(0, 1, Desks.INT);
        desk.addField(0, 2, Desks.A);
        desk.make(Desks.A, 0);
        desk.make(Desks.B, 0);
        desk.make(Desks.INTS, 3);
        desk.make(Desks.ARRAY_OF_A, 2);
        for (int i = 0; i < 6; i++) {
            set(desk, (char) ('a' + i), Desks.INT, i + 1);
        }
        set(desk, 'g', Desks.BOOLEAN, 1);
        set(desk, 'o', Desks.A, 1);
        set(desk, 'p', Desks.A, 2);
        set(desk, 'q', Desks.INTS, 3);
        set(desk, 'r', Desks.ARRAY_OF_A, 4);
        set(desk, 'n', Desks.A, 0);
        desk.addVariable(26, Desks.B);
        desk.setVariable(26, 2);
        desk.setPart(1, 0, 10);
        desk.setPart(2, 0, 20);
        desk.setPart(3, 2, 32);
        desk.setPart(4, 1, 2);
        desk.run(false);
        return desk;
    }

    private static void set(MirrorDesk desk, char name, int kind, long v) {
        desk.addVariable(Desks.name(name), kind);
        Check.isTrue("set " + name, desk.setVariable(Desks.name(name), v));
    }

    private static void states(String what, MirrorDesk desk, int... due) {
        for (int e = 0; e < due.length; e++) {
            Check.same(what + ": state of " + e, desk.look(e, 0), due[e]);
        }
    }

    // "An object is used for at most 512 calls after it has been made"
    private static void lastCall() {
        MirrorDesk desk = new MirrorDesk();
        desk.addVariable(0, Desks.INT);
        desk.setVariable(0, 7);
        desk.run(false);
        for (int call = 4; call <= 505; call++) {
            Check.isTrue("put or evaluated", call % 2 == 0 ? desk.put('a') : desk.eval(0) == Desks.WAITS);
        }
        Check.isTrue("the 506th call", desk.put('a'));
        Check.same("the 507th", desk.eval(3), Desks.WAITS);
        Check.same("the 508th", desk.count(2), 1);
        Check.same("the 509th", desk.answer(0), 2);
        Check.same("the 510th", desk.value(3), 7);
        Check.same("the 511th", desk.value(0), 7);
        Check.same("the 512th", desk.count(3), 1);
        MirrorDesk other = new MirrorDesk();
        for (int n = 0; n < 511; n++) {
            Check.isTrue("line", other.line(n % 2 == 1));
        }
        Check.isTrue("the 512th call", other.line(true));
    }

    // "0 a variable's value (or this)", promise 13: "the variable (0 .. 26)"
    private static void variablesAskedFor() {
        for (int name = 0; name <= 26; name++) {
            MirrorDesk desk = new MirrorDesk();
            desk.addClass(-1);
            desk.addVariable(name, Desks.A);
            desk.run(false);
            String text = name == 26 ? "this" : String.valueOf((char) ('a' + name));
            Check.same("waits for " + text, Desks.eval(desk, 0, text), Desks.WAITS);
            Desks.request("for " + text, desk, 0, 0, name, 0, 0);
        }
    }

    // promise 13: "or object (1)"
    private static void objectsAskedFor() {
        for (int object = 1; object <= 12; object++) {
            MirrorDesk desk = new MirrorDesk();
            desk.addClass(-1);
            desk.addClass(0);
            desk.addField(0, 5, Desks.INT);
            for (int n = 1; n < object; n++) {
                desk.make(Desks.INTS, 1);
            }
            desk.make(Desks.A, 0);
            desk.addVariable(0, Desks.A);
            desk.setVariable(0, object);
            desk.run(false);
            Desks.eval(desk, 0, "a.f");
            desk.answer(0);
            Desks.request("field of " + object, desk, 0, 1, object, 5, 1);
            Desks.eval(desk, 1, "a instanceof B");
            Desks.request("class of " + object, desk, 1, 4, object, 0, 2);
        }
    }

    // "1 a field's of an object", promise 13: "the field (0 .. 25)"
    private static void fieldsAskedFor() {
        for (int name = 0; name <= 25; name++) {
            MirrorDesk desk = new MirrorDesk();
            desk.addClass(-1);
            desk.addClass(0);
            desk.addField(0, name, Desks.LONG);
            desk.make(Desks.B, 0);
            desk.addVariable(26, Desks.B);
            desk.setVariable(26, 1);
            desk.setPart(1, name, 40 + name);
            desk.run(false);
            Desks.eval(desk, 2, "this." + (char) ('a' + name));
            desk.answer(0);
            Desks.request("field " + name, desk, 0, 1, 1, name, 1);
            Check.same("answered", desk.answer(0), 1);
            Check.same("its value", desk.value(2), 40 + name);
        }
    }

    // "2 an element's of an array", promise 13: "or element"
    private static void elementsAskedFor() {
        for (int index = 0; index < 5; index++) {
            MirrorDesk desk = new MirrorDesk();
            desk.make(Desks.INTS, 1);
            desk.make(Desks.INTS, 5);
            set(desk, 'a', Desks.INTS, 2);
            desk.setPart(2, index, 70 + index);
            desk.run(false);
            Desks.eval(desk, 0, "a[" + index + "]");
            desk.answer(0);
            Desks.request("length", desk, 0, 3, 2, 0, 1);
            desk.answer(0);
            Desks.request("element " + index, desk, 0, 2, 2, index, 2);
            Check.same("answered", desk.answer(0), 1);
            Check.same("its value", desk.value(0), 70 + index);
        }
    }

    // "(after its length)"
    private static void lengthBeforeElement() {
        String[] beyond = {"q[-1]", "q[3]", "q[2147483647]", "q[-2147483648]"};
        for (String text : beyond) {
            MirrorDesk desk = desk();
            Desks.eval(desk, 0, text);
            desk.answer(0);
            Desks.request("the length before " + text, desk, 0, 3, 3, 0, 1);
            Check.same("answered", desk.answer(0), 1);
            Check.same("beyond it", desk.look(0, 2), 3);
            Desks.counts("no element is asked for", desk, 0, 2, 2);
        }
        MirrorDesk desk = desk();
        Desks.work(desk, 0, "q.length");
        Desks.counts("the length alone", desk, 0, 2, 2);
        Check.same("its element then", Desks.eval(desk, 1, "q[0]"), Desks.WAITS);
        Desks.request("the element, since the length is known", desk, 0, 2, 3, 0, 2);
        Check.same("beyond it at once", Desks.eval(desk, 2, "q[3]"), Desks.EXCEPTION);
        Check.same("null is asked nothing", Desks.work(desk, 2, "((int[])null)[a]"), Desks.EXCEPTION);
        Desks.counts("but its index is", desk, 0, 4, 4);
    }

    // "4 the class of an object (for instanceof and casts of a reference that is not null and whose
    // expression's kind does not fit the kind that is asked for)"
    private static void classesAskedFor() {
        String[] asked = {"(B)o", "o instanceof B", "(B)p", "p instanceof B", "(B)(A)this",
            "(A)this instanceof B", "(B)r[1]", "(g?o:this)instanceof B"};
        int[] pieces = {2, 2, 2, 2, 2, 2, 4, 3};
        for (int i = 0; i < asked.length; i++) {
            MirrorDesk desk = desk();
            Desks.work(desk, 0, asked[i]);
            Desks.counts(asked[i] + " asks for a class", desk, 0, pieces[i], pieces[i]);
        }
        String[] notAsked = {"(A)o", "o instanceof A", "(A)this", "this instanceof A", "this instanceof B",
            "(B)this", "(B)n", "n instanceof B", "n instanceof A", "(int[])q", "(A[])r", "(B)r[0]",
            "(g?n:this)instanceof B"};
        pieces = new int[] {1, 1, 1, 1, 1, 1, 1, 1, 1, 1, 1, 3, 2};
        for (int i = 0; i < notAsked.length; i++) {
            MirrorDesk desk = desk();
            Desks.work(desk, 0, notAsked[i]);
            Desks.counts(notAsked[i] + " asks for no class", desk, 0, pieces[i], pieces[i]);
        }
        MirrorDesk desk = desk();
        Check.same("(B)null", Desks.eval(desk, 0, "(B)null"), Desks.VALUE);
        Check.same("null instanceof B", Desks.eval(desk, 1, "null instanceof B"), Desks.VALUE);
        Desks.counts("null is asked nothing", desk, 0, 0, 0);
    }

    // "PIECES are asked for when they are needed"
    private static void onlyWhatIsNeeded() {
        String[] texts = {"true||g", "false&&g", "true?1:a", "false?a:1", "1/0+a", "null==null||n==o",
            "true||a/0==1"};
        for (String text : texts) {
            MirrorDesk desk = desk();
            Check.isTrue(text + " is done", Desks.eval(desk, 0, text) != Desks.WAITS);
            Desks.counts(text + " asks for nothing", desk, 0, 0, 0);
        }
        MirrorDesk desk = desk();
        Desks.eval(desk, 0, "g&&a==1");
        Desks.request("g first", desk, 0, 0, Desks.name('g'), 0, 0);
        Check.same("one at a time", desk.count(1), 1);
        desk.answer(0);
        Desks.request("then a", desk, 0, 0, 0, 0, 1);
        Desks.eval(desk, 1, "!g&&b==1");
        Check.same("b is not needed", desk.count(1), 1);
    }

    // "What was answered is KNOWN as long as the target is stopped"
    private static void knownWhileStopped() {
        MirrorDesk desk = desk();
        Desks.work(desk, 0, "a+b");
        Desks.counts("two are known", desk, 0, 2, 2);
        Check.isFalse("it is stopped already", desk.run(false));
        Desks.counts("still known", desk, 0, 2, 2);
        Check.same("nothing to ask for", desk.again(0), Desks.VALUE);
        desk.run(true);
        Desks.counts("nothing is known while it runs", desk, 0, 2, 0);
        desk.run(false);
        Desks.counts("nor later", desk, 0, 2, 0);
        Check.same("asked for again", desk.again(0), Desks.WAITS);
        Desks.counts("one", desk, 1, 3, 0);
    }

    // ".. and the line is not broken"
    private static void knownWhileWhole() {
        MirrorDesk desk = desk();
        Desks.work(desk, 0, "a+b");
        Check.isFalse("it is whole already", desk.line(true));
        Desks.counts("still known", desk, 0, 2, 2);
        desk.line(false);
        Desks.counts("nothing is known over a broken line", desk, 0, 2, 0);
        Check.same("so it is cut", desk.again(0), Desks.CUT);
        desk.line(true);
        Desks.counts("nor later", desk, 0, 2, 0);
        Check.same("asked for again", desk.again(0), Desks.WAITS);
        Desks.counts("one", desk, 1, 3, 0);
    }

    // "(also if nobody waited for it any more)"
    private static void knownForNobody() {
        MirrorDesk desk = desk();
        Desks.eval(desk, 0, "a");
        Desks.eval(desk, 0, "1");
        Check.same("nobody waits", desk.answer(0), 0);
        Desks.counts("it is known", desk, 0, 1, 1);
        Check.same("a value at once", Desks.eval(desk, 1, "a"), Desks.VALUE);
        Check.same("of it", desk.value(1), 1);
        Desks.counts("nothing was sent", desk, 0, 1, 1);
    }

    private static void refusedIsNotKnown() {
        MirrorDesk desk = desk();
        Desks.eval(desk, 0, "a");
        Check.same("refused", desk.refuse(0), 1);
        Desks.counts("it is not known", desk, 0, 1, 0);
        Check.same("it is asked for again", Desks.eval(desk, 1, "a"), Desks.WAITS);
        Desks.counts("with a new request", desk, 1, 2, 0);
        Desks.request("the new one", desk, 0, 0, 0, 0, 1);
    }

    // "EVALUATIONS 0 .. 3"
    private static void fourEvaluations() {
        for (int e = -2; e < 7; e++) {
            boolean there = e >= 0 && e <= 3;
            MirrorDesk desk = desk();
            Desks.write(desk, "7");
            Check.same("look " + e, desk.look(e, 0), there ? 0 : -1);
            Check.same("look " + e, desk.look(e, 1), -1);
            Check.same("look " + e, desk.look(e, 2), there ? 0 : -1);
            Check.same("value " + e, desk.value(e), 0);
            Check.same("again " + e, desk.again(e), -1);
            Check.same("eval " + e, desk.eval(e), there ? Desks.VALUE : -1);
            Check.same("the text of " + e, desk.count(0), there ? 0 : 1);
            Check.same("again " + e, desk.again(e), there ? Desks.VALUE : -1);
            Check.same("value " + e, desk.value(e), there ? 7 : 0);
            Check.same("look " + e, desk.look(e, 0), there ? Desks.VALUE : -1);
            Check.same("look " + e, desk.look(e, 1), there ? Desks.INT : -1);
        }
    }

    // "each has a text and a STATE"
    private static void eachItsText() {
        MirrorDesk desk = desk();
        String[] texts = {"10", "1/0", "a", "("};
        int[] due = {Desks.VALUE, Desks.EXCEPTION, Desks.WAITS, Desks.ILL_FORMED};
        for (int e = 0; e < 4; e++) {
            Check.same("eval " + e, Desks.eval(desk, e, texts[e]), due[e]);
            for (int other = e + 1; other < 4; other++) {
                Check.same("the others have none", desk.look(other, 0), 0);
            }
        }
        states("each its own", desk, due);
        for (int e = 3; e >= 0; e--) {
            Check.same("each its text again", desk.again(e), due[e]);
        }
        Desks.eval(desk, 1, "20");
        states("one gets another", desk, Desks.VALUE, Desks.VALUE, Desks.WAITS, Desks.ILL_FORMED);
        Check.same("the first", desk.value(0), 10);
        Check.same("the second", desk.value(1), 20);
    }

    // "0 none, 1 waits, 2 a value, 3 an exception, 4 ill formed, 5 ill typed, 6 refused, 7 cut, 8 stale"
    private static void everyState() {
        MirrorDesk desk = desk();
        Check.same("none", desk.look(0, 0), 0);
        Check.same("waits", Desks.eval(desk, 0, "a"), 1);
        desk.answer(0);
        Check.same("a value", desk.look(0, 0), 2);
        Check.same("an exception", Desks.eval(desk, 0, "a/0"), 3);
        Check.same("ill formed", Desks.eval(desk, 0, "a/"), 4);
        Check.same("ill typed", Desks.eval(desk, 0, "a/g"), 5);
        Desks.eval(desk, 0, "b");
        desk.refuse(0);
        Check.same("refused", desk.look(0, 0), 6);
        Desks.eval(desk, 0, "b");
        desk.line(false);
        Check.same("cut", desk.look(0, 0), 7);
        desk.line(true);
        desk.again(0);
        desk.run(true);
        Check.same("stale", desk.look(0, 0), 8);
    }

    // "if none for the same piece waits already, one is sent"
    private static void oneRequestForAPiece() {
        MirrorDesk desk = desk();
        String[] texts = {"a", "a+b", "-a", "a==b"};
        for (int e = 0; e < 4; e++) {
            Desks.eval(desk, e, texts[e]);
            Desks.counts("one for all", desk, 1, 1, 0);
        }
        Check.same("four wait for it", desk.answer(0), 4);
        Desks.counts("one for the two that need b", desk, 1, 2, 1);
        // Pieces of the same numbers, but not of the same sort, are others.
        MirrorDesk other = new MirrorDesk();
        other.addClass(-1);
        other.addField(0, 1, Desks.INT);
        other.make(Desks.A, 0);
        other.make(Desks.INTS, 2);
        set(other, 'a', Desks.A, 1);
        set(other, 'b', Desks.INTS, 2);
        set(other, 'c', Desks.INT, 0);
        other.run(false);
        Desks.work(other, 3, "a==null||b.length==2");
        Desks.eval(other, 0, "a.b");
        Desks.eval(other, 1, "b[1]");
        Desks.eval(other, 2, "c");
        Desks.eval(other, 3, "b[0]");
        Desks.counts("four requests", other, 4, 7, 3);
        Desks.request("a field", other, 0, 1, 1, 1, 3);
        Desks.request("an element", other, 1, 2, 2, 1, 4);
        Desks.request("a variable", other, 2, 0, 2, 0, 5);
        Desks.request("another element", other, 3, 2, 2, 0, 6);
    }

    // "put at the end of the list of requests"
    private static void atTheEndOfTheList() {
        MirrorDesk desk = desk();
        for (int e = 0; e < 4; e++) {
            Desks.eval(desk, e, String.valueOf((char) ('d' - e)));
            Desks.request("the last", desk, e, 0, 3 - e, 0, e);
            Check.same("none behind it", desk.request(e + 1, 0), -1);
        }
        desk.answer(1);
        Desks.eval(desk, 1, "e");
        int[] due = {3, 1, 0, 4};
        for (int k = 0; k < 4; k++) {
            Check.same("the list in its order", desk.request(k, 1), due[k]);
        }
        desk.refuse(0);
        Desks.eval(desk, 0, "d");
        Check.same("asked for again, at the end", desk.request(3, 1), 3);
        Check.same("the others moved up", desk.request(0, 1), 1);
    }

    // "If the line is broken, none is sent, and it is CUT."
    private static void nothingIsSentOverABrokenLine() {
        MirrorDesk desk = desk();
        desk.line(false);
        String[] texts = {"a", "g&&true", "o.a", "false||g"};
        for (int e = 0; e < 4; e++) {
            Check.same("cut: " + texts[e], Desks.eval(desk, e, texts[e]), Desks.CUT);
            Check.isTrue("its kind", desk.look(e, 1) >= 0);
            Desks.counts("nothing is sent", desk, 0, 0, 0);
        }
        Check.same("one that needs nothing is not", Desks.eval(desk, 0, "1"), Desks.VALUE);
        Check.same("an exception", Desks.eval(desk, 1, "1/0+a"), Desks.EXCEPTION);
        Check.same("ill formed", Desks.eval(desk, 2, "a+"), Desks.ILL_FORMED);
        Check.same("ill typed", Desks.eval(desk, 3, "a+g"), Desks.ILL_TYPED);
        desk.line(true);
        states("they stay", desk, Desks.VALUE, Desks.EXCEPTION, Desks.ILL_FORMED, Desks.ILL_TYPED);
        Check.same("then it is sent", Desks.eval(desk, 0, "a"), Desks.WAITS);
        Desks.counts("the first", desk, 1, 1, 0);
    }

    // "(One that begins anew and needs the same piece waits for that request again.)"
    private static void sameRequestAgain() {
        MirrorDesk desk = desk();
        Desks.eval(desk, 0, "a+b");
        Desks.eval(desk, 1, "c");
        for (int n = 0; n < 3; n++) {
            Check.same("again", desk.again(0), Desks.WAITS);
            Desks.counts("no new request", desk, 2, 2, 0);
            Check.same("the same one", desk.request(0, 1), 0);
        }
        Check.same("another text that needs it", Desks.eval(desk, 0, "a*2"), Desks.WAITS);
        Desks.counts("no new request", desk, 2, 2, 0);
        Check.same("waited for by one", desk.answer(0), 1);
        Check.same("done", desk.value(0), 2);
        Check.same("one whose request is the last", desk.again(1), Desks.WAITS);
        Desks.counts("no new request", desk, 1, 2, 1);
    }

    // "the evaluations that wait for it go on .. each until it waits anew or is done"
    private static void untilItWaitsAnew() {
        MirrorDesk desk = desk();
        Desks.work(desk, 3, "b+c");
        Desks.eval(desk, 0, "a+b+c+d+e");
        Check.same("one waits for a", desk.answer(0), 1);
        Desks.request("b and c are known: d is next", desk, 0, 0, 3, 0, 3);
        Desks.counts("one", desk, 1, 4, 3);
        Check.same("one waits for d", desk.answer(0), 1);
        Check.same("it waits anew", desk.look(0, 0), Desks.WAITS);
        Check.same("no value yet", desk.value(0), 0);
        Check.same("one waits for e", desk.answer(0), 1);
        Check.same("it is done", desk.look(0, 0), Desks.VALUE);
        Check.same("its value", desk.value(0), 15);
    }

    // "the least first": the requests that they send stand in this order
    private static void leastGoesOnFirst() {
        MirrorDesk desk = desk();
        String[] texts = {"g?d:1", "g?c:1", "g?b:1", "g?a:1"};
        for (int e = 3; e >= 0; e--) {
            Desks.eval(desk, e, texts[e]);
        }
        Check.same("four wait", desk.answer(0), 4);
        for (int k = 0; k < 4; k++) {
            Desks.request("request " + k, desk, k, 0, 3 - k, 0, k + 1);
        }
    }

    private static void doneInOneAnswer() {
        for (int waiting = 0; waiting <= 4; waiting++) {
            MirrorDesk desk = desk();
            Desks.eval(desk, 0, "a");
            Desks.eval(desk, 0, "5");
            for (int e = 0; e < waiting; e++) {
                Desks.eval(desk, e, "a+" + e);
            }
            Check.same("so many wait", desk.answer(0), waiting);
            for (int e = 0; e < waiting; e++) {
                Check.same("done", desk.value(e), 1 + e);
            }
        }
    }

    // "when it is refused, they are REFUSED"
    private static void refusedOnesAlone() {
        MirrorDesk desk = desk();
        Desks.eval(desk, 0, "a");
        Desks.eval(desk, 1, "b");
        Desks.eval(desk, 2, "a+b");
        Desks.eval(desk, 3, "c");
        Check.same("two wait for a", desk.refuse(0), 2);
        states("those alone", desk, Desks.REFUSED, Desks.WAITS, Desks.REFUSED, Desks.WAITS);
        Desks.counts("the others' requests stay", desk, 2, 3, 0);
        Check.same("b is answered", desk.answer(0), 1);
        states("a refused one does not go on", desk, Desks.REFUSED, Desks.VALUE, Desks.REFUSED, Desks.WAITS);
        Check.same("begins anew", desk.again(2), Desks.WAITS);
        Desks.request("a new request", desk, 1, 0, 0, 0, 3);
    }

    // "When the line breaks, all that wait are cut .. no requests are left"
    private static void allFourAreCut() {
        MirrorDesk desk = fourWait();
        Desks.counts("four", desk, 4, 4, 0);
        Check.isTrue("break", desk.line(false));
        states("all four", desk, Desks.CUT, Desks.CUT, Desks.CUT, Desks.CUT);
        Desks.counts("none left", desk, 0, 4, 0);
        Check.same("nothing to answer", desk.answer(0), -1);
        Check.same("nothing to refuse", desk.refuse(0), -1);
        desk.line(true);
        states("they stay", desk, Desks.CUT, Desks.CUT, Desks.CUT, Desks.CUT);
        Desks.counts("none comes back", desk, 0, 4, 0);
        Check.same("the last begins anew", desk.again(3), Desks.WAITS);
        Desks.request("its request", desk, 0, 0, 3, 0, 4);
    }

    // "when the target runs, all that wait are STALE"
    private static void allFourAreStale() {
        MirrorDesk desk = fourWait();
        Check.isTrue("run", desk.run(true));
        states("all four", desk, Desks.STALE, Desks.STALE, Desks.STALE, Desks.STALE);
        Desks.counts("none left", desk, 0, 4, 0);
        Check.same("nothing to answer", desk.answer(0), -1);
        Check.same("nothing to refuse", desk.refuse(0), -1);
        desk.line(false);
        desk.line(true);
        states("stale is not cut", desk, Desks.STALE, Desks.STALE, Desks.STALE, Desks.STALE);
        desk.run(false);
        states("they stay", desk, Desks.STALE, Desks.STALE, Desks.STALE, Desks.STALE);
        Check.same("the last begins anew", desk.again(3), Desks.WAITS);
        Desks.request("its request", desk, 0, 0, 3, 0, 4);
    }

    // "(others stay what they are)", "What doesn't wait then stays as it is."
    private static void whatDoesNotWaitStays() {
        for (int turn = 0; turn < 2; turn++) {
            MirrorDesk desk = desk();
            Desks.work(desk, 0, "a");
            Desks.eval(desk, 1, "1/0");
            Desks.eval(desk, 2, "b");
            desk.refuse(0);
            Desks.eval(desk, 3, "q.");
            turn(desk, turn);
            states("they stay", desk, Desks.VALUE, Desks.EXCEPTION, Desks.REFUSED, Desks.ILL_FORMED);
            Check.same("the value stays", desk.value(0), 1);
            Check.same("the exception stays", desk.look(1, 2), 1);
            Check.same("the kinds stay", desk.look(2, 1), Desks.INT);
            MirrorDesk other = desk();
            Desks.eval(other, 0, "a");
            Desks.eval(other, 1, "a+g");
            other.line(false);
            other.line(true);
            Desks.eval(other, 2, "b");
            other.run(true);
            other.run(false);
            turn(other, turn);
            states("they stay", other, Desks.CUT, Desks.ILL_TYPED, Desks.STALE, 0);
        }
    }

    private static void turn(MirrorDesk desk, int turn) {
        if (turn == 0) {
            desk.line(false);
            desk.line(true);
        } else {
            desk.run(true);
            desk.run(false);
        }
    }

    // "(Other requests stay in the list, also if nobody waits for them any more.)"
    private static void requestsOfNobodyStay() {
        MirrorDesk desk = desk();
        String[] texts = {"a", "b", "c", "1", "d", ")", "e", "a+g"};
        for (String text : texts) {
            Desks.eval(desk, 0, text);
        }
        Desks.counts("all stay", desk, 5, 5, 0);
        for (int k = 0; k < 5; k++) {
            Desks.request("request " + k, desk, k, 0, k, 0, k);
        }
        Check.same("nobody waits for the third", desk.answer(2), 0);
        Check.same("nobody waits for the last", desk.refuse(3), 0);
        Desks.counts("the others stay", desk, 3, 5, 1);
        int[] due = {0, 1, 3};
        for (int k = 0; k < 3; k++) {
            Check.same("the list in its order", desk.request(k, 1), due[k]);
        }
        Check.same("the evaluation stays", desk.look(0, 0), Desks.ILL_TYPED);
        Check.same("one that needs it waits for it", Desks.eval(desk, 1, "d"), Desks.WAITS);
        Desks.counts("no other is sent", desk, 3, 5, 1);
        Check.same("it waits", desk.answer(2), 1);
    }

    // Promise 11: "Answers its state; -1 (refused) if there is none such, or the target runs."
    private static void refusedEval() {
        MirrorDesk desk = new MirrorDesk();
        Desks.write(desk, "42");
        Check.same("it runs", desk.eval(0), -1);
        Check.same("no state", desk.look(0, 0), 0);
        Check.same("the text stays", desk.count(0), 2);
        desk.run(false);
        int[] none = {-1, 4, 5, 256, Integer.MIN_VALUE, Integer.MAX_VALUE};
        for (int e : none) {
            Check.same("none such: " + e, desk.eval(e), -1);
            Check.same("the text stays", desk.count(0), 2);
        }
        Check.same("the last one", desk.eval(3), Desks.VALUE);
        Check.same("its value", desk.value(3), 42);
        desk.run(true);
        Desks.write(desk, "7");
        Check.same("it runs again", desk.eval(3), -1);
        Check.same("the text stays", desk.count(0), 1);
        Check.same("the value stays", desk.value(3), 42);
        Check.isTrue("the line does not matter", desk.line(false));
        desk.run(false);
        Check.same("it is stopped", desk.eval(0), Desks.VALUE);
        Check.same("its value", desk.value(0), 7);
    }

    // Promise 12: "-1 (refused) if it has no text, there is none such, or the target runs"
    private static void refusedAgain() {
        MirrorDesk desk = desk();
        for (int e = 0; e < 4; e++) {
            Check.same("no text of " + e, desk.again(e), -1);
            Check.same("no state", desk.look(e, 0), 0);
        }
        Desks.eval(desk, 1, "3");
        Check.same("a text", desk.again(1), Desks.VALUE);
        Check.same("none before it", desk.again(0), -1);
        Check.same("none behind it", desk.again(2), -1);
        int[] none = {-1, 4, 5, 256, Integer.MIN_VALUE, Integer.MAX_VALUE};
        for (int e : none) {
            Check.same("none such: " + e, desk.again(e), -1);
        }
        desk.run(true);
        Check.same("it runs", desk.again(1), -1);
        Check.same("what it was", desk.value(1), 3);
        desk.run(false);
        Check.same("it is stopped", desk.again(1), Desks.VALUE);
        Check.same("an empty text", desk.eval(2), Desks.ILL_FORMED);
        Check.same("is a text", desk.again(2), Desks.ILL_FORMED);
    }

    // Promise 12: "Evaluation e begins anew (also one that waits; its request stays)."
    private static void againWhileItWaits() {
        MirrorDesk desk = desk();
        Desks.eval(desk, 0, "a+b");
        desk.answer(0);
        Desks.counts("it waits for b", desk, 1, 2, 1);
        Check.same("again", desk.again(0), Desks.WAITS);
        Desks.counts("a is known, b's request stays", desk, 1, 2, 1);
        desk.run(true);
        desk.setVariable(0, 100);
        desk.setVariable(1, 200);
        desk.run(false);
        Check.same("anew", desk.again(0), Desks.WAITS);
        Desks.request("from the beginning", desk, 0, 0, 0, 0, 2);
        desk.answer(0);
        Check.same("between", desk.again(0), Desks.WAITS);
        desk.answer(0);
        Check.same("with what is there now", desk.value(0), 300);
        Desks.write(desk, "7");
        Check.same("and again", desk.again(0), Desks.VALUE);
        Check.same("the same", desk.value(0), 300);
        Check.same("what is written stays", desk.count(0), 1);
        Check.same("for another one", desk.eval(1), Desks.VALUE);
        Check.same("its value", desk.value(1), 7);
    }

    // Promise 13: "Of the k-th request that waits .. -1 if there is none"
    private static void requestsByNumber() {
        for (int waiting = 0; waiting <= 4; waiting++) {
            MirrorDesk desk = desk();
            for (int e = 0; e < waiting; e++) {
                Desks.eval(desk, e, String.valueOf((char) ('c' + e)));
            }
            for (int k = -2; k < 7; k++) {
                boolean there = k >= 0 && k < waiting;
                Check.same("request " + k + " of " + waiting, desk.request(k, 1), there ? 2 + k : -1);
                Check.same("its sort", desk.request(k, 0), there ? 0 : -1);
                Check.same("its part", desk.request(k, 2), there ? 0 : -1);
                Check.same("those before", desk.request(k, 3), there ? k : -1);
            }
            for (int k : FAR) {
                Check.same("request " + k, desk.request(k, 0), -1);
            }
        }
    }

    // Promise 13: "what it asks for (what = 0: 0 .. 4), the variable .. or object (1), the field .. or
    // element, 0 if neither (2), how many requests were sent before it (3); .. -1 .. for another what"
    private static void whatARequestTells() {
        MirrorDesk desk = desk();
        Desks.work(desk, 3, "p==null||q==null");
        int sent = 2;
        String[] texts = {"f", "p.b", "q[2]", "p instanceof B"};
        int[][] due = {{0, 5, 0}, {1, 2, 1}, {3, 3, 0}, {4, 2, 0}};
        for (int e = 0; e < 4; e++) {
            Check.same("waits", Desks.eval(desk, e, texts[e]), Desks.WAITS);
            Desks.request(texts[e], desk, e, due[e][0], due[e][1], due[e][2], sent + e);
            for (int what = -3; what < 8; what++) {
                if (what < 0 || what > 3) {
                    Check.same("another what: " + what, desk.request(e, what), -1);
                }
            }
            for (int what : FAR) {
                Check.same("another what: " + what, desk.request(e, what), -1);
            }
        }
        desk.answer(2);
        Desks.request("the element", desk, 3, 2, 3, 2, sent + 4);
    }

    /** The number of those sent before goes on, whatever became of them. */
    private static void sentBefore() {
        MirrorDesk desk = desk();
        Desks.eval(desk, 0, "a");
        Check.same("none before", desk.request(0, 3), 0);
        desk.answer(0);
        Desks.eval(desk, 0, "b");
        Check.same("one was answered", desk.request(0, 3), 1);
        desk.refuse(0);
        Desks.eval(desk, 0, "c");
        Check.same("one was refused", desk.request(0, 3), 2);
        desk.line(false);
        desk.line(true);
        Desks.eval(desk, 0, "d");
        Check.same("one was lost with the line", desk.request(0, 3), 3);
        desk.run(true);
        desk.run(false);
        Desks.eval(desk, 0, "e");
        Check.same("one was lost when it ran", desk.request(0, 3), 4);
        Check.same("five were sent", desk.count(2), 5);
        Desks.eval(desk, 1, "f");
        desk.answer(0);
        Check.same("it keeps its number", desk.request(0, 3), 5);
    }

    /** Evaluation e waits for the e-th of four requests, each for a variable. */
    private static MirrorDesk fourWait() {
        MirrorDesk desk = desk();
        for (int e = 0; e < 4; e++) {
            Desks.eval(desk, e, String.valueOf((char) ('a' + e)));
        }
        return desk;
    }

    /** Of four that waited, the k-th is gone: its evaluation has the state told, the others wait on. */
    private static void oneIsGone(MirrorDesk desk, int k, int state, int known) {
        Desks.counts("one is gone", desk, 3, 4, known);
        for (int e = 0; e < 4; e++) {
            Check.same("state", desk.look(e, 0), e == k ? state : Desks.WAITS);
            Check.same("value", desk.value(e), e == k && state == Desks.VALUE ? k + 1 : 0);
        }
        for (int other = 0; other < 3; other++) {
            int was = other < k ? other : other + 1;
            Desks.request("the others", desk, other, 0, was, 0, was);
        }
        Check.same("no fourth any more", desk.answer(3), -1);
        Check.same("no fourth any more", desk.refuse(3), -1);
    }

    // Promise 14: "Answers the k-th request that waits, which is gone then; how many evaluations waited for
    // it (perhaps 0). -1 (refused) if there is none."
    private static void answers() {
        int[] none = {-1, 4, 5, 256, Integer.MIN_VALUE, Integer.MAX_VALUE};
        for (int k = 0; k < 4; k++) {
            MirrorDesk desk = fourWait();
            for (int wrong : none) {
                Check.same("none " + wrong, desk.answer(wrong), -1);
            }
            Desks.counts("all wait", desk, 4, 4, 0);
            Check.same("answer " + k, desk.answer(k), 1);
            oneIsGone(desk, k, Desks.VALUE, 1);
        }
        Check.same("none at all", desk().answer(0), -1);
        Check.same("none while it runs", new MirrorDesk().answer(0), -1);
    }

    // Promise 15: "Refuses the k-th request that waits, which is gone then; how many evaluations waited for
    // it. -1 (refused) if there is none."
    private static void refusals() {
        int[] none = {-1, 4, 5, 256, Integer.MIN_VALUE, Integer.MAX_VALUE};
        for (int k = 0; k < 4; k++) {
            MirrorDesk desk = fourWait();
            for (int wrong : none) {
                Check.same("none " + wrong, desk.refuse(wrong), -1);
            }
            Desks.counts("all wait", desk, 4, 4, 0);
            Check.same("refuse " + k, desk.refuse(k), 1);
            oneIsGone(desk, k, Desks.REFUSED, 0);
        }
        for (int waiting = 0; waiting <= 4; waiting++) {
            MirrorDesk desk = desk();
            Desks.eval(desk, 0, "a");
            Desks.eval(desk, 0, "5");
            for (int e = 0; e < waiting; e++) {
                Desks.eval(desk, e, "a");
            }
            Check.same("so many waited", desk.refuse(0), waiting);
        }
        Check.same("none at all", desk().refuse(0), -1);
        Check.same("none while it runs", new MirrorDesk().refuse(0), -1);
    }

    // Promise 16: "Of evaluation e: its state (what = 0); .. -1 if there is no such evaluation or what."
    private static void looks() {
        MirrorDesk desk = desk();
        for (int e = 0; e < 4; e++) {
            Desks.eval(desk, e, "1/0");
        }
        int[] whats = {-2, -1, 3, 4, 256, Integer.MIN_VALUE, Integer.MAX_VALUE};
        for (int e = 0; e < 4; e++) {
            Check.same("state", desk.look(e, 0), 3);
            Check.same("kind", desk.look(e, 1), 0);
            Check.same("exception", desk.look(e, 2), 1);
            for (int what : whats) {
                Check.same("no such what: " + what, desk.look(e, what), -1);
            }
        }
        int[] none = {-2, -1, 4, 5, 256, Integer.MIN_VALUE, Integer.MAX_VALUE};
        for (int e : none) {
            for (int what = -1; what < 4; what++) {
                Check.same("no such evaluation: " + e, desk.look(e, what), -1);
            }
        }
    }

    // Promise 16: "the kind of its expression (1; also of one that waits, or was refused, cut or is stale),
    // -1 if it has none or is ill formed or ill typed"
    private static void kindsThatAreSeen() {
        MirrorDesk desk = desk();
        Check.same("none", desk.look(0, 1), -1);
        Desks.eval(desk, 0, "g&&a==1");
        Check.same("it waits", desk.look(0, 1), Desks.BOOLEAN);
        desk.refuse(0);
        Check.same("refused", desk.look(0, 1), Desks.BOOLEAN);
        desk.again(0);
        desk.line(false);
        Check.same("cut", desk.look(0, 1), Desks.BOOLEAN);
        Desks.eval(desk, 0, "p");
        Check.same("cut at once", desk.look(0, 1), Desks.A);
        desk.line(true);
        desk.again(0);
        desk.run(true);
        Check.same("stale", desk.look(0, 1), Desks.A);
        desk.run(false);
        Desks.eval(desk, 0, "1L/0");
        Check.same("an exception", desk.look(0, 1), Desks.LONG);
        Desks.eval(desk, 0, "'a'");
        Check.same("a value", desk.look(0, 1), Desks.CHAR);
        Desks.eval(desk, 0, "'a'+");
        Check.same("ill formed", desk.look(0, 1), -1);
        Desks.eval(desk, 0, "(int[])null");
        Check.same("a value", desk.look(0, 1), Desks.INTS);
        Desks.eval(desk, 0, "'a'+g");
        Check.same("ill typed", desk.look(0, 1), -1);
        Desks.eval(desk, 0, "null");
        Check.same("null", desk.look(0, 1), Desks.NULL);
        desk.eval(0);
        Check.same("an empty text", desk.look(0, 1), -1);
    }

    // Promise 16: "its exception (2), 0 without one"
    private static void exceptionsThatAreSeen() {
        MirrorDesk desk = desk();
        String[] texts = {"1/0", "((A)null).a", "q[3]", "(B)o", "1", "a+", "a+g", "b"};
        int[] due = {1, 2, 3, 4, 0, 0, 0, 0};
        for (int i = 0; i < texts.length; i++) {
            Desks.eval(desk, 0, "1/0");
            Check.same("one before", desk.look(0, 2), 1);
            Desks.eval(desk, 0, texts[i]);
            while (i < 4 && desk.look(0, 0) == Desks.WAITS) {
                Check.same("none while it waits", desk.look(0, 2), 0);
                desk.answer(0);
            }
            Check.same("exception of " + texts[i], desk.look(0, 2), due[i]);
        }
        MirrorDesk other = desk();
        other.run(true);
        other.setVariable(0, 0);
        other.run(false);
        Check.same("1/a", Desks.work(other, 0, "1/a"), Desks.EXCEPTION);
        other.run(true);
        Check.same("it stays while it runs", other.look(0, 2), 1);
        other.setVariable(0, 1);
        other.run(false);
        Check.same("it begins anew", other.again(0), Desks.WAITS);
        Check.same("none while it waits", other.look(0, 2), 0);
        other.answer(0);
        Check.same("none with a value", other.look(0, 2), 0);
        Check.same("the value", other.value(0), 1);
    }

    // Promise 17: "The value of evaluation e, if its state is 2; else 0."
    private static void values() {
        MirrorDesk desk = desk();
        int[] none = {-1, 4, 256, Integer.MIN_VALUE, Integer.MAX_VALUE};
        for (int e = 0; e < 4; e++) {
            Check.same("none yet", desk.value(e), 0);
            Desks.work(desk, e, "5+a");
            Check.same("a value", desk.value(e), 6);
        }
        for (int e : none) {
            Check.same("no evaluation " + e, desk.value(e), 0);
        }
        desk.run(true);
        Check.same("it stays while it runs", desk.value(3), 6);
        desk.run(false);
        desk.again(0);
        Check.same("none while it waits", desk.value(0), 0);
        desk.refuse(0);
        Check.same("none when refused", desk.value(0), 0);
        desk.again(0);
        desk.line(false);
        Check.same("none when cut", desk.value(0), 0);
        Check.same("the others' stay", desk.value(1), 6);
        desk.line(true);
        desk.again(0);
        desk.run(true);
        Check.same("none when stale", desk.value(0), 0);
        desk.run(false);
        String[] texts = {"5/0", "5+", "5+g", ""};
        for (String text : texts) {
            Desks.eval(desk, 0, "5");
            Check.same("a value", desk.value(0), 5);
            Desks.eval(desk, 0, text);
            Check.same("none of " + text, desk.value(0), 0);
        }
        Desks.eval(desk, 0, "999999999999999999L*10+99");
        Check.same("a long", desk.value(0), 999999999999999999L * 10 + 99);
        Desks.eval(desk, 0, "-5");
        Check.same("an int below 0", desk.value(0), -5);
    }

    // Promise 18: "How many characters are written (0), requests wait (1), were sent ever (2), pieces are
    // known (3; ..); -1 for another what."
    private static void counts() {
        MirrorDesk desk = desk();
        int[] whats = {-2, -1, 4, 5, 256, Integer.MIN_VALUE, Integer.MAX_VALUE};
        for (int what : whats) {
            Check.same("another what: " + what, desk.count(what), -1);
        }
        Desks.write(desk, "abc");
        Check.same("characters", desk.count(0), 3);
        desk.put('\n');
        Check.same("one that was refused", desk.count(0), 3);
        Desks.counts("nothing was sent", desk, 0, 0, 0);
        desk.eval(0);
        Check.same("none", desk.count(0), 0);
        Desks.eval(desk, 0, "a");
        Desks.eval(desk, 1, "b");
        Desks.eval(desk, 2, "a");
        Desks.counts("two", desk, 2, 2, 0);
        desk.answer(1);
        Desks.counts("one answered", desk, 1, 2, 1);
        desk.refuse(0);
        Desks.counts("one refused", desk, 0, 2, 1);
        Desks.eval(desk, 0, "c");
        Desks.counts("another", desk, 1, 3, 1);
        desk.line(false);
        Desks.counts("over a broken line", desk, 0, 3, 0);
        desk.line(true);
        Desks.eval(desk, 0, "c");
        desk.answer(0);
        Desks.counts("one known", desk, 0, 4, 1);
        desk.run(true);
        Desks.counts("while it runs", desk, 0, 4, 0);
    }

    // Promise 18: "pieces are known (3; 0 when the target runs or the line is broken)": each counts once
    private static void countOfPieces() {
        MirrorDesk desk = desk();
        Desks.work(desk, 0, "p.a");
        Check.same("a variable and a field", desk.count(3), 2);
        Desks.work(desk, 1, "p.a+p.a");
        Check.same("the same ones", desk.count(3), 2);
        Desks.work(desk, 1, "this.a");
        Check.same("the same field of the same object", desk.count(3), 3);
        Desks.work(desk, 1, "this.b");
        Check.same("another field", desk.count(3), 4);
        Desks.work(desk, 1, "o.b");
        Check.same("of another object", desk.count(3), 6);
        Desks.work(desk, 1, "q[0]+q[2]");
        Check.same("a variable, a length and two elements", desk.count(3), 10);
        Desks.work(desk, 1, "q.length");
        Check.same("the same length", desk.count(3), 10);
        Desks.work(desk, 1, "p instanceof B");
        Check.same("a class", desk.count(3), 11);
        Desks.work(desk, 1, "(B)p");
        Check.same("the same class", desk.count(3), 11);
        Check.same("so many were sent", desk.count(2), 11);
    }

    /** About as many requests wait as the calls of one object (496 of them here) can bring about. */
    private static void aLongList() {
        MirrorDesk desk = new MirrorDesk();
        desk.addClass(-1);
        for (int name = 0; name < 26; name++) {
            desk.addField(0, name, Desks.INT);
        }
        for (int object = 1; object <= 4; object++) {
            desk.make(Desks.A, 0);
            desk.addVariable(object, Desks.A);
            desk.setVariable(object, object);
        }
        desk.run(false);
        for (int object = 1; object <= 4; object++) {
            char variable = (char) ('a' + object);
            Desks.eval(desk, 0, String.valueOf(variable));
            desk.answer(26 * (object - 1));
            for (int name = 0; name < 26; name++) {
                Desks.eval(desk, name % 4, variable + "." + (char) ('a' + name));
            }
        }
        Check.same("so many wait", desk.count(1), 104);
        Check.same("so many were sent", desk.count(2), 108);
        int[] some = {0, 63, 64, 103};
        for (int k : some) {
            Desks.request("request " + k, desk, k, 1, k / 26 + 1, k % 26, k + k / 26 + 1);
        }
        Check.same("none behind the last", desk.request(104, 0), -1);
        Check.same("the last", desk.answer(103), 1);
        Check.same("the first, for nobody", desk.answer(0), 0);
        Desks.request("all moved up", desk, 101, 1, 4, 24, 106);
        Desks.counts("two less", desk, 102, 108, 6);
    }
}
