import java.util.ArrayList;
import java.util.List;

/**
 * "A call that is refused (an answer of -1 or false) changes nothing (the text that is written stays,
 * too)": of two desks with the same calls, one gets a call more that is refused, and then both answer all
 * later calls alike. Calls that only look are held against the same.
 */
public final class RefusedCallsTest {
    private static final int[] WRONG = {-1, Integer.MIN_VALUE, Integer.MAX_VALUE};

    private RefusedCallsTest() {
    }

    /** One call of a desk; a boolean counts 1 or 0. */
    private interface Call {
        long on(MirrorDesk desk);
    }

    /** What a desk has been through before the call that is refused. */
    private interface Story {
        MirrorDesk told();
    }

    /** Later calls, whose answers are written down. */
    private interface Sequel {
        void on(Talk talk);
    }

    /** A desk with what it has answered so far. */
    private static final class Talk {
        private final MirrorDesk desk;
        private final List<Long> answers = new ArrayList<>();

        Talk(MirrorDesk itsDesk) {
            desk = itsDesk;
        }

        void note(long answer) {
            answers.add(answer);
        }

        void note(boolean answer) {
            note(answer ? 1 : 0);
        }

        void everything() {
            for (int e = 0; e < 4; e++) {
                for (int what = 0; what < 3; what++) {
                    note(desk.look(e, what));
                }
                note(desk.value(e));
            }
            for (int what = 0; what < 4; what++) {
                note(desk.count(what));
            }
            for (int k = 0; k < desk.count(1); k++) {
                for (int what = 0; what < 4; what++) {
                    note(desk.request(k, what));
                }
            }
        }

        /** Works a text out in evaluation 0, whose own texts are lost. */
        void work(String text) {
            for (char c : text.toCharArray()) {
                note(desk.put(c));
            }
            note(desk.eval(0));
            note(desk.look(0, 1));
            for (int n = 0; n < 4 && desk.look(0, 0) == Desks.WAITS; n++) {
                note(desk.answer(desk.count(1) - 1));
            }
            note(desk.look(0, 0));
            note(desk.value(0));
        }
    }

    private static final Sequel[] SEQUELS = {RefusedCallsTest::declare, RefusedCallsTest::make,
        RefusedCallsTest::change, RefusedCallsTest::read, RefusedCallsTest::answerAll,
        RefusedCallsTest::refuseAll, RefusedCallsTest::breakLine, RefusedCallsTest::letRun,
        RefusedCallsTest::writeOn};

    public static void main(String[] args) {
        newDesk();
        classes();
        fields();
        variables();
        objects();
        settingVariables();
        settingParts();
        runningAndWhole();
        evaluationsWhileItRuns();
        allIsFull();
        declaringWhenStopped();
        changingWhenStopped();
        stoppedAlready();
        evaluationsThatAreNot();
        requestsThatAreNot();
        evaluationsWithoutText();
        brokenAlready();
        runningAgain();
        characters();
        lookingChangesNothing();
        Check.end();
    }

    // ---- what comes later

    private static void declare(Talk talk) {
        talk.everything();
        talk.note(talk.desk.addClass(0));
        for (int type = 0; type < 6; type++) {
            for (int name = 0; name < 4; name++) {
                talk.note(talk.desk.addField(type, name, Desks.LONG));
            }
            talk.note(talk.desk.addField(type, 25, Desks.A + type));
        }
        for (int name = 0; name <= 26; name++) {
            talk.note(talk.desk.addVariable(name, name == 26 ? Desks.A : Desks.LONG));
        }
        for (int n = 0; n < 6; n++) {
            talk.note(talk.desk.addClass(n - 1));
        }
        talk.everything();
    }

    private static void make(Talk talk) {
        for (int kind = Desks.A; kind < Desks.NULL; kind++) {
            talk.note(talk.desk.make(kind, 2));
        }
        for (int object = 0; object <= 13; object++) {
            talk.note(talk.desk.setPart(object, 0, 0));
            talk.note(talk.desk.setPart(object, 2, 0));
            talk.note(talk.desk.setVariable(1, object));
        }
        talk.note(talk.desk.run(false));
        talk.note(talk.desk.line(true));
        talk.work("b");
        talk.everything();
    }

    private static void change(Talk talk) {
        for (int name = 0; name <= 26; name++) {
            talk.note(talk.desk.setVariable(name, 70000));
            talk.note(talk.desk.setVariable(name, 1));
        }
        for (int object = 1; object <= 12; object++) {
            for (int part = 0; part <= 3; part++) {
                talk.note(talk.desk.setPart(object, part, 70000));
                talk.note(talk.desk.setPart(object, part, 1));
            }
        }
        talk.note(talk.desk.run(false));
        talk.work("a");
        talk.work("b.a");
        talk.everything();
    }

    private static void read(Talk talk) {
        talk.note(talk.desk.run(false));
        talk.note(talk.desk.line(true));
        talk.note(talk.desk.eval(1));
        String[] texts = {"a", "b", "b.a", "b.b", "c[0]", "c[2]", "c.length", "d[1]", "e", "f", "j", "z",
            "this", "this.c", "b instanceof B", "(D)null"};
        for (String text : texts) {
            talk.work(text);
        }
        talk.everything();
    }

    private static void answerAll(Talk talk) {
        for (int n = 0; n < 6; n++) {
            talk.note(talk.desk.answer(0));
            talk.everything();
        }
        for (int e = 0; e < 4; e++) {
            talk.note(talk.desk.again(e));
        }
        talk.everything();
    }

    private static void refuseAll(Talk talk) {
        for (int n = 0; n < 4; n++) {
            talk.note(talk.desk.refuse(talk.desk.count(1) - 1));
            talk.everything();
        }
        for (int e = 0; e < 4; e++) {
            talk.note(talk.desk.again(e));
        }
        talk.everything();
    }

    private static void breakLine(Talk talk) {
        talk.note(talk.desk.line(false));
        talk.everything();
        for (int e = 0; e < 4; e++) {
            talk.note(talk.desk.again(e));
        }
        talk.note(talk.desk.line(true));
        talk.everything();
        for (int e = 0; e < 4; e++) {
            talk.note(talk.desk.again(e));
        }
        talk.everything();
    }

    private static void letRun(Talk talk) {
        talk.note(talk.desk.run(true));
        talk.everything();
        talk.note(talk.desk.addClass(-1));
        talk.note(talk.desk.make(Desks.INTS, 1));
        talk.note(talk.desk.run(false));
        talk.everything();
        for (int e = 0; e < 4; e++) {
            talk.note(talk.desk.again(e));
        }
        talk.everything();
    }

    private static void writeOn(Talk talk) {
        talk.note(talk.desk.put('1'));
        talk.note(talk.desk.put('1'));
        talk.everything();
        talk.note(talk.desk.run(false));
        for (int e = 3; e >= 0; e--) {
            talk.note(talk.desk.eval(e));
            talk.note(talk.desk.count(0));
        }
        talk.everything();
    }

    // ---- what came before

    /**
     * Classes A, B that extends A, and C; A has a: int and b: A, B has c: char. Objects 1: an A, 2: three
     * ints, 3: two As, 4: a B. Variables a: int, b: A, c: int[], d: A[], e: boolean, f: char, z: long. A
     * text is written.
     */
    private static MirrorDesk half() {
        MirrorDesk desk = new MirrorDesk();
        desk.addClass(-1);
        desk.addClass(0);
        desk.addClass(-1);
        desk.addField(0, 0, Desks.INT);
        desk.addField(0, 1, Desks.A);
        desk.addField(1, 2, Desks.CHAR);
        int[] kinds = {Desks.INT, Desks.A, Desks.INTS, Desks.ARRAY_OF_A, Desks.BOOLEAN, Desks.CHAR};
        for (int i = 0; i < kinds.length; i++) {
            desk.addVariable(i, kinds[i]);
        }
        desk.addVariable(25, Desks.LONG);
        desk.make(Desks.A, 0);
        desk.make(Desks.INTS, 3);
        desk.make(Desks.ARRAY_OF_A, 2);
        desk.make(Desks.B, 0);
        long[] values = {5, 1, 2, 3, 1, 66};
        for (int i = 0; i < values.length; i++) {
            Check.isTrue("set", desk.setVariable(i, values[i]));
        }
        desk.setVariable(25, 1L << 40);
        desk.setPart(1, 0, 10);
        desk.setPart(1, 1, 4);
        desk.setPart(2, 0, 20);
        desk.setPart(2, 2, 22);
        desk.setPart(3, 1, 4);
        desk.setPart(4, 2, 44);
        Desks.write(desk, "a*2");
        return desk;
    }

    private static MirrorDesk withThis() {
        MirrorDesk desk = half();
        desk.addVariable(26, Desks.B);
        desk.setVariable(26, 4);
        return desk;
    }

    private static MirrorDesk full() {
        MirrorDesk desk = new MirrorDesk();
        for (int type = 0; type < 6; type++) {
            desk.addClass(type - 1);
            desk.addField(type, type, Desks.INT);
        }
        for (int name = 0; name <= 26; name++) {
            desk.addVariable(name, name == 26 ? Desks.B : Desks.A);
        }
        for (int object = 1; object <= 12; object++) {
            desk.make(Desks.A + object % 6, 0);
            desk.setPart(object, 0, 100 + object);
            desk.setVariable(object, object);
        }
        Desks.write(desk, "b.a+1                                   ");
        return desk;
    }

    /** 0 waits for a, 1 has a value, 2 an exception, 3 waits for b's field; three requests, a text. */
    private static MirrorDesk stopped() {
        MirrorDesk desk = withThis();
        desk.run(false);
        desk.eval(0);
        Desks.eval(desk, 1, "z");
        Desks.eval(desk, 3, "b.a");
        desk.answer(2);
        desk.answer(1);
        Desks.eval(desk, 2, "e");
        Desks.eval(desk, 2, "1/0");
        Desks.write(desk, "a+1");
        return desk;
    }

    /** 0 is ill formed, 1 was refused, 2 is ill typed, 3 has no text; a request, a text. */
    private static MirrorDesk stoppedOtherwise() {
        MirrorDesk desk = withThis();
        desk.run(false);
        Desks.eval(desk, 0, "+");
        Desks.eval(desk, 1, "a");
        desk.refuse(0);
        Desks.eval(desk, 2, "z");
        Desks.eval(desk, 2, "a+b");
        Desks.write(desk, "c.length");
        return desk;
    }

    /** 0 is cut, 1 has a value, 2 an exception, 3 is cut, too; nothing is known; a text. */
    private static MirrorDesk broken() {
        MirrorDesk desk = stopped();
        desk.line(false);
        return desk;
    }

    /** 0 is stale, 1 has a value, 2 an exception, 3 is stale, too; a text. */
    private static MirrorDesk runsAgain() {
        MirrorDesk desk = stopped();
        desk.run(true);
        return desk;
    }

    private static MirrorDesk runsWithBrokenLine() {
        MirrorDesk desk = withThis();
        desk.line(false);
        return desk;
    }

    // ---- what is refused

    private static long number(boolean answer) {
        return answer ? 1 : 0;
    }

    /** That the call answers as told, and that each sequel goes as it does without the call. */
    private static void same(String what, Story story, Call call, long due) {
        for (int i = 0; i < SEQUELS.length; i++) {
            Talk with = new Talk(story.told());
            Talk without = new Talk(story.told());
            Check.same(what, call.on(with.desk), due);
            SEQUELS[i].on(with);
            SEQUELS[i].on(without);
            Check.isTrue(what + " changes nothing for sequel " + i, with.answers.equals(without.answers));
        }
    }

    private static void no(String what, Story story, Call call) {
        same(what + " is refused", story, call, -1);
    }

    /** For calls whose answer is a boolean. */
    private static void isFalse(String what, Story story, Call call) {
        same(what + " is refused", story, call, 0);
    }

    private static void noField(String what, Story story, int type, int name, int kind) {
        isFalse("addField: " + what, story, desk -> number(desk.addField(type, name, kind)));
    }

    private static void noVariable(String what, Story story, int name, int kind) {
        isFalse("addVariable: " + what, story, desk -> number(desk.addVariable(name, kind)));
    }

    private static void noObject(String what, Story story, int kind, int length) {
        no("make: " + what, story, desk -> desk.make(kind, length));
    }

    private static void notSet(String what, Story story, int name, long v) {
        isFalse("setVariable: " + what, story, desk -> number(desk.setVariable(name, v)));
    }

    private static void noPartSet(String what, Story story, int object, int part, long v) {
        isFalse("setPart: " + what, story, desk -> number(desk.setPart(object, part, v)));
    }

    private static void newDesk() {
        Story story = MirrorDesk::new;
        no("addClass: no class to extend", story, desk -> desk.addClass(0));
        noField("no class", story, 0, 0, Desks.INT);
        noVariable("no class", story, 1, Desks.A);
        noVariable("this of no class", story, 26, Desks.INT);
        noVariable("this of an array", story, 26, Desks.INTS);
        noObject("no class", story, Desks.A, 0);
        notSet("no variable", story, 1, 0);
        noPartSet("no object", story, 1, 0, 0);
        no("eval: it runs", story, desk -> desk.eval(0));
        no("again: no text", story, desk -> desk.again(0));
        no("answer: none", story, desk -> desk.answer(0));
        no("refuse: none", story, desk -> desk.refuse(0));
        isFalse("run: it runs", story, desk -> number(desk.run(true)));
        isFalse("line: it is whole", story, desk -> number(desk.line(true)));
    }

    private static void classes() {
        int[] parents = {-2, 3, 4, 5, 6, Integer.MIN_VALUE, Integer.MAX_VALUE};
        for (int parent : parents) {
            no("addClass: no class " + parent, RefusedCallsTest::half, desk -> desk.addClass(parent));
        }
    }

    private static void fields() {
        Story story = RefusedCallsTest::half;
        int[] types = {-1, 3, 5, 6, Integer.MIN_VALUE, Integer.MAX_VALUE};
        for (int type : types) {
            noField("no class " + type, story, type, 3, Desks.INT);
        }
        int[] names = {-1, 26, 27, Integer.MIN_VALUE, Integer.MAX_VALUE};
        for (int name : names) {
            for (int type = 0; type < 3; type++) {
                noField("no name " + name, story, type, name, Desks.INT);
            }
        }
        int[] kinds = {-1, 7, 9, 14, 16, 17, 18, Integer.MIN_VALUE, Integer.MAX_VALUE};
        for (int kind : kinds) {
            noField("no kind " + kind, story, 2, 3, kind);
        }
        noField("the class has it", story, 0, 0, Desks.LONG);
        noField("the class has it, of this kind", story, 0, 0, Desks.INT);
        noField("inherited", story, 1, 0, Desks.LONG);
        noField("inherited, a reference", story, 1, 1, Desks.B);
        noField("of a class that extends it", story, 0, 2, Desks.LONG);
    }

    private static void variables() {
        Story story = RefusedCallsTest::half;
        int[] names = {-1, 27, 28, Integer.MIN_VALUE, Integer.MAX_VALUE};
        for (int name : names) {
            noVariable("no name " + name, story, name, Desks.INT);
            noVariable("no name " + name, story, name, Desks.A);
        }
        int[] kinds = {-1, 7, 9, 14, 16, 17, 18, Integer.MIN_VALUE, Integer.MAX_VALUE};
        for (int kind : kinds) {
            noVariable("no kind " + kind, story, 9, kind);
            noVariable("no kind " + kind + " for this", story, 26, kind);
        }
        int[] noClasses = {Desks.INT, Desks.LONG, Desks.CHAR, Desks.BOOLEAN, Desks.INTS, Desks.ARRAY_OF_A};
        for (int kind : noClasses) {
            noVariable("this of kind " + kind, story, 26, kind);
        }
        for (int kind = 0; kind <= Desks.B; kind++) {
            noVariable("a is there", story, 0, kind);
            noVariable("b is there", story, 1, kind);
            noVariable("z is there", story, 25, kind);
            noVariable("this is there", RefusedCallsTest::withThis, 26, kind);
        }
    }

    private static void objects() {
        Story story = RefusedCallsTest::half;
        int[] kinds = {-1, 0, 1, 2, 3, 7, 9, 14, 16, 17, 18, Integer.MIN_VALUE, Integer.MAX_VALUE};
        for (int kind : kinds) {
            noObject("no kind " + kind, story, kind, 1);
        }
        int[] lengths = {-1, 6, Integer.MIN_VALUE, Integer.MAX_VALUE};
        for (int length : lengths) {
            noObject("length " + length, story, Desks.INTS, length);
            noObject("length " + length + " of As", story, Desks.ARRAY_OF_A, length);
        }
    }

    private static void settingVariables() {
        Story story = RefusedCallsTest::withThis;
        int[] names = {-1, 9, 24, 27, Integer.MIN_VALUE, Integer.MAX_VALUE};
        for (int name : names) {
            notSet("no variable " + name, story, name, 1);
        }
        notSet("too large an int", story, 0, 2147483648L);
        notSet("too small an int", story, 0, -2147483649L);
        notSet("an array as an A", story, 1, 2);
        notSet("no object", story, 1, 5);
        notSet("below 0", story, 1, -1);
        notSet("beyond all ints", story, 1, 4294967297L);
        notSet("an A as an array", story, 2, 1);
        notSet("an array of As as one of ints", story, 2, 3);
        notSet("no boolean", story, 4, 2);
        notSet("no boolean", story, 4, -1);
        notSet("no char", story, 5, 65536);
        notSet("no char", story, 5, -1);
        notSet("an A as a B", story, 26, 1);
    }

    private static void settingParts() {
        Story story = RefusedCallsTest::withThis;
        int[] objects = {-1, 0, 5, 12, 13, Integer.MIN_VALUE, Integer.MAX_VALUE};
        for (int object : objects) {
            noPartSet("no object " + object, story, object, 0, 1);
            noPartSet("no object " + object + " for 0", story, object, 0, 0);
        }
        int[] parts = {-1, 3, 25, 26, 27, Integer.MIN_VALUE, Integer.MAX_VALUE};
        for (int part : parts) {
            for (int object = 1; object <= 4; object++) {
                noPartSet("no part " + part + " of " + object, story, object, part, 1);
            }
        }
        noPartSet("B's field of an A", story, 1, 2, 1);
        noPartSet("an element behind the last", story, 3, 2, 1);
        noPartSet("too large an int", story, 1, 0, 2147483648L);
        noPartSet("too small an int", story, 2, 0, -2147483649L);
        noPartSet("no char", story, 4, 2, 65536);
        noPartSet("an array as an A", story, 1, 1, 2);
        noPartSet("an array as an A", story, 3, 1, 3);
        noPartSet("no object", story, 1, 1, 5);
        noPartSet("no object", story, 3, 0, -1);
    }

    private static void runningAndWhole() {
        isFalse("run: it runs", RefusedCallsTest::withThis, desk -> number(desk.run(true)));
        isFalse("line: it is whole", RefusedCallsTest::withThis, desk -> number(desk.line(true)));
        isFalse("line: it is broken", RefusedCallsTest::runsWithBrokenLine, desk -> number(desk.line(false)));
    }

    private static void evaluationsWhileItRuns() {
        for (int e = -1; e <= 4; e++) {
            int which = e;
            no("eval " + e + ": it runs", RefusedCallsTest::withThis, desk -> desk.eval(which));
            no("again " + e + ": it runs", RefusedCallsTest::withThis, desk -> desk.again(which));
        }
        no("answer: none", RefusedCallsTest::withThis, desk -> desk.answer(0));
        no("refuse: none", RefusedCallsTest::withThis, desk -> desk.refuse(0));
    }

    private static void allIsFull() {
        Story story = RefusedCallsTest::full;
        for (int parent = -1; parent <= 6; parent++) {
            int which = parent;
            no("addClass: six are there, " + parent, story, desk -> desk.addClass(which));
        }
        noObject("twelve are there", story, Desks.A, 0);
        noObject("twelve are there", story, 9, 0);
        noObject("twelve are there", story, Desks.INTS, 5);
        noVariable("it is there", story, 0, Desks.INT);
        noVariable("it is there", story, 25, 9);
        noField("no class", story, 6, 7, Desks.INT);
        isFalse("put: forty are there", story, desk -> number(desk.put('1')));
        isFalse("put: forty are there", story, desk -> number(desk.put(' ')));
        no("eval: it runs", story, desk -> desk.eval(0));
    }

    private static void declaringWhenStopped() {
        Story[] stories = {RefusedCallsTest::stopped, RefusedCallsTest::broken, RefusedCallsTest::runsAgain};
        for (Story story : stories) {
            no("addClass: ever stopped", story, desk -> desk.addClass(-1));
            no("addClass: ever stopped", story, desk -> desk.addClass(0));
            noField("ever stopped", story, 0, 3, Desks.INT);
            noField("ever stopped", story, 2, 0, Desks.A);
            noField("ever stopped, and there", story, 0, 0, Desks.LONG);
            noVariable("ever stopped", story, 9, Desks.INT);
            noVariable("ever stopped", story, 24, Desks.A);
            noVariable("ever stopped, and there", story, 0, Desks.LONG);
        }
    }

    private static void changingWhenStopped() {
        Story[] stories = {RefusedCallsTest::stopped, RefusedCallsTest::broken,
                RefusedCallsTest::stoppedOtherwise};
        for (Story story : stories) {
            noObject("stopped", story, Desks.A, 0);
            noObject("stopped", story, Desks.INTS, 3);
            notSet("stopped", story, 0, 6);
            notSet("stopped, to what it is", story, 0, 5);
            notSet("stopped", story, 1, 4);
            notSet("stopped", story, 26, 0);
            noPartSet("stopped", story, 1, 0, 11);
            noPartSet("stopped", story, 1, 1, 0);
            noPartSet("stopped", story, 2, 2, 7);
            noPartSet("stopped, to what it is", story, 1, 0, 10);
        }
    }

    private static void stoppedAlready() {
        isFalse("run: it is stopped", RefusedCallsTest::stopped, desk -> number(desk.run(false)));
        isFalse("run: it is stopped", RefusedCallsTest::stoppedOtherwise, desk -> number(desk.run(false)));
        isFalse("run: it is stopped", RefusedCallsTest::broken, desk -> number(desk.run(false)));
        isFalse("line: it is whole", RefusedCallsTest::stopped, desk -> number(desk.line(true)));
        isFalse("line: it is whole", RefusedCallsTest::stoppedOtherwise, desk -> number(desk.line(true)));
    }

    private static void evaluationsThatAreNot() {
        Story[] stories = {RefusedCallsTest::stopped, RefusedCallsTest::stoppedOtherwise,
                RefusedCallsTest::broken};
        int[] none = {-1, 4, 5, 256, Integer.MIN_VALUE, Integer.MAX_VALUE};
        for (Story story : stories) {
            for (int e : none) {
                no("eval: none such " + e, story, desk -> desk.eval(e));
                no("again: none such " + e, story, desk -> desk.again(e));
            }
        }
    }

    private static void requestsThatAreNot() {
        Check.same("so many wait", stopped().count(1), 3);
        int[] none = {-1, 3, 4, 5, 256, Integer.MIN_VALUE, Integer.MAX_VALUE};
        for (int k : none) {
            no("answer: none " + k, RefusedCallsTest::stopped, desk -> desk.answer(k));
            no("refuse: none " + k, RefusedCallsTest::stopped, desk -> desk.refuse(k));
        }
        int[] noneAtAll = {-1, 0, 1};
        Story[] stories = {RefusedCallsTest::broken, RefusedCallsTest::runsAgain};
        for (Story story : stories) {
            for (int k : noneAtAll) {
                no("answer: none " + k, story, desk -> desk.answer(k));
                no("refuse: none " + k, story, desk -> desk.refuse(k));
            }
        }
    }

    private static void evaluationsWithoutText() {
        no("again: no text", RefusedCallsTest::stoppedOtherwise, desk -> desk.again(3));
        for (int e = 0; e < 4; e++) {
            int which = e;
            no("again: no text", Desks::stopped, desk -> desk.again(which));
        }
    }

    private static void brokenAlready() {
        isFalse("line: it is broken", RefusedCallsTest::broken, desk -> number(desk.line(false)));
        no("answer: none", RefusedCallsTest::broken, desk -> desk.answer(0));
    }

    private static void runningAgain() {
        Story story = RefusedCallsTest::runsAgain;
        isFalse("run: it runs", story, desk -> number(desk.run(true)));
        isFalse("line: it is whole", story, desk -> number(desk.line(true)));
        for (int e = -1; e <= 4; e++) {
            int which = e;
            no("eval " + e + ": it runs", story, desk -> desk.eval(which));
            no("again " + e + ": it runs", story, desk -> desk.again(which));
        }
        noObject("length", story, Desks.INTS, 6);
        notSet("no value", story, 0, 2147483648L);
        noPartSet("no part", story, 2, 3, 1);
    }

    private static void characters() {
        int[] bad = {0, 9, 10, 13, 31, 127, 128, 160, 233, 255, 256 + 'a', 65535};
        Story[] stories = {RefusedCallsTest::half, RefusedCallsTest::stopped, RefusedCallsTest::runsAgain,
            RefusedCallsTest::full};
        for (int c : bad) {
            for (Story story : stories) {
                isFalse("put " + c, story, desk -> number(desk.put((char) c)));
            }
        }
    }

    private static void lookingChangesNothing() {
        Story[] stories = {RefusedCallsTest::half, RefusedCallsTest::stopped, RefusedCallsTest::broken,
            RefusedCallsTest::runsAgain};
        for (Story story : stories) {
            same("all looks", story, RefusedCallsTest::looks, 0);
        }
    }

    /** Looks at all that can be seen, and where there is nothing to see. */
    private static long looks(MirrorDesk desk) {
        for (int what = -1; what <= 4; what++) {
            for (int which = -1; which <= 4; which++) {
                desk.look(which, what);
                desk.request(which, what);
                desk.value(which);
            }
            desk.count(what);
        }
        for (int wrong : WRONG) {
            desk.look(wrong, wrong);
            desk.request(wrong, wrong);
            desk.value(wrong);
            desk.count(wrong);
        }
        return 0;
    }
}
