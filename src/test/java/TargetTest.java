/** Promises 1 to 9: a new desk, the target's classes, fields, variables and objects, run and line. */
public final class TargetTest {
    private TargetTest() {
    }

    public static void main(String[] args) {
        newDesk();
        classes();
        classesAfterStop();
        fields();
        fieldsOfRelatives();
        fieldKinds();
        variables();
        thisVariable();
        objects();
        twelveObjects();
        valuesOfVariables();
        references();
        parts();
        sixClasses();
        fieldsOfLaterDate();
        runAndLine();
        Check.end();
    }

    private static void newDesk() {
        MirrorDesk desk = new MirrorDesk();
        for (int e = 0; e < 4; e++) {
            Check.same("new: state", desk.look(e, 0), 0);
            Check.same("new: kind", desk.look(e, 1), -1);
            Check.same("new: exception", desk.look(e, 2), 0);
            Check.same("new: value", desk.value(e), 0);
        }
        for (int what = 0; what < 4; what++) {
            Check.same("new: count " + what, desk.count(what), 0);
        }
        Check.isFalse("new: runs", desk.run(true));
        Check.isFalse("new: line is whole", desk.line(true));
        Check.same("new: no object", desk.setPart(1, 0, 0), false);
        Check.same("new: no variable", desk.setVariable(0, 0), false);
        Check.same("new: no class", desk.make(Desks.A, 0), -1);
        Check.same("new: no request", desk.request(0, 0), -1);
        Check.same("two desks are apart", new MirrorDesk().addClass(-1), 0);
    }

    private static void classes() {
        MirrorDesk desk = new MirrorDesk();
        Check.same("no class 0 yet", desk.addClass(0), -1);
        Check.same("parent -2", desk.addClass(-2), -1);
        Check.same("least parent", desk.addClass(Integer.MIN_VALUE), -1);
        Check.same("greatest parent", desk.addClass(Integer.MAX_VALUE), -1);
        Check.same("A", desk.addClass(-1), 0);
        Check.same("itself", desk.addClass(1), -1);
        for (int type = 1; type < 6; type++) {
            Check.same("class", desk.addClass(type - 1), type);
        }
        Check.same("a seventh", desk.addClass(-1), -1);
        Check.same("a seventh that extends", desk.addClass(5), -1);
    }

    private static void classesAfterStop() {
        MirrorDesk desk = new MirrorDesk();
        desk.addClass(-1);
        desk.line(false);
        Check.same("a broken line does not matter", desk.addClass(-1), 1);
        desk.run(false);
        Check.same("class while stopped", desk.addClass(-1), -1);
        Check.isFalse("field while stopped", desk.addField(0, 0, 0));
        Check.isFalse("variable while stopped", desk.addVariable(0, 0));
        desk.run(true);
        Check.same("class when ever stopped", desk.addClass(-1), -1);
        Check.isFalse("field when ever stopped", desk.addField(0, 0, 0));
        Check.isFalse("variable when ever stopped", desk.addVariable(0, 0));
        Check.same("object when ever stopped", desk.make(Desks.A, 0), 1);
    }

    private static void fields() {
        MirrorDesk desk = new MirrorDesk();
        Check.isFalse("no class", desk.addField(0, 0, 0));
        desk.addClass(-1);
        Check.isFalse("no class -1", desk.addField(-1, 0, 0));
        Check.isFalse("no class B", desk.addField(1, 0, 0));
        Check.isFalse("no name -1", desk.addField(0, -1, 0));
        Check.isFalse("no name 26", desk.addField(0, 26, 0));
        Check.isTrue("a", desk.addField(0, 0, 0));
        Check.isTrue("z", desk.addField(0, 25, 0));
        Check.isFalse("a again", desk.addField(0, 0, 0));
        Check.isFalse("a again, of another kind", desk.addField(0, 0, 1));
    }

    private static void fieldsOfRelatives() {
        MirrorDesk desk = new MirrorDesk();
        desk.addClass(-1);
        desk.addClass(0);
        desk.addClass(1);
        desk.addClass(0);
        Check.isTrue("C.a", desk.addField(2, 0, 0));
        Check.isFalse("A.a: C extends A by two steps", desk.addField(0, 0, 0));
        Check.isFalse("B.a: C extends B", desk.addField(1, 0, 0));
        Check.isTrue("D.a: a sister", desk.addField(3, 0, 0));
        Check.isTrue("A.b", desk.addField(0, 1, 0));
        Check.isFalse("C.b: inherited by two steps", desk.addField(2, 1, 0));
        Check.isFalse("D.b: inherited", desk.addField(3, 1, 0));
        desk.addClass(3);
        Check.isFalse("E.a: D has it", desk.addField(4, 0, 0));
        Check.isTrue("E.c", desk.addField(4, 2, 0));
        Check.isTrue("C.c: no relative of E", desk.addField(2, 2, 0));
    }

    private static void fieldKinds() {
        MirrorDesk desk = new MirrorDesk();
        desk.addClass(-1);
        desk.addClass(-1);
        int[] good = {0, 1, 2, 3, 4, 5, 10, 11, 12};
        int[] bad = {-1, 6, 7, 8, 9, 13, 14, 15, 16, 17, 18, Integer.MIN_VALUE, Integer.MAX_VALUE};
        for (int i = 0; i < good.length; i++) {
            Check.isTrue("field of kind " + good[i], desk.addField(0, i, good[i]));
            Check.isTrue("variable of kind " + good[i], desk.addVariable(i, good[i]));
        }
        for (int kind : bad) {
            Check.isFalse("field of kind " + kind, desk.addField(0, 20, kind));
            Check.isFalse("variable of kind " + kind, desk.addVariable(20, kind));
        }
    }

    private static void variables() {
        MirrorDesk desk = new MirrorDesk();
        Check.isFalse("name -1", desk.addVariable(-1, 0));
        Check.isFalse("name 27", desk.addVariable(27, 0));
        Check.isTrue("a", desk.addVariable(0, 0));
        Check.isFalse("a again", desk.addVariable(0, 0));
        Check.isFalse("a again, of another kind", desk.addVariable(0, 1));
        Check.isTrue("z", desk.addVariable(25, 3));
    }

    private static void thisVariable() {
        for (int kind = -1; kind < 19; kind++) {
            MirrorDesk desk = new MirrorDesk();
            for (int type = 0; type < 3; type++) {
                desk.addClass(-1);
            }
            Check.same("this of kind " + kind, desk.addVariable(26, kind), kind >= 4 && kind <= 6);
        }
        MirrorDesk desk = new MirrorDesk();
        desk.addClass(-1);
        desk.addVariable(26, Desks.A);
        Check.isFalse("this again", desk.addVariable(26, Desks.A));
        Check.isTrue("this is null", desk.setVariable(26, 0));
    }

    private static void objects() {
        MirrorDesk desk = new MirrorDesk();
        desk.addClass(-1);
        int[] bad = {-1, 0, 1, 2, 3, 5, 9, 12, 16, 17, 18};
        for (int kind : bad) {
            Check.same("object of kind " + kind, desk.make(kind, 1), -1);
        }
        Check.same("longer than 5", desk.make(Desks.INTS, 6), -1);
        Check.same("shorter than 0", desk.make(Desks.INTS, -1), -1);
        Check.same("longer than 5, of A", desk.make(Desks.ARRAY_OF_A, 6), -1);
        Check.same("an A of any length", desk.make(Desks.A, -7), 1);
        Check.same("an A of any length", desk.make(Desks.A, 99), 2);
        Check.same("no elements", desk.make(Desks.INTS, 0), 3);
        Check.same("five elements", desk.make(Desks.ARRAY_OF_A, 5), 4);
        desk.run(false);
        Check.same("while stopped", desk.make(Desks.A, 0), -1);
        desk.run(true);
        Check.same("later", desk.make(Desks.A, 0), 5);
    }

    private static void twelveObjects() {
        MirrorDesk desk = new MirrorDesk();
        for (int object = 1; object <= 12; object++) {
            Check.same("object", desk.make(Desks.INTS, 1), object);
        }
        Check.same("a thirteenth", desk.make(Desks.INTS, 1), -1);
        Check.isTrue("the twelfth's part", desk.setPart(12, 0, 1));
        Check.isFalse("the thirteenth's part", desk.setPart(13, 0, 1));
    }

    private static void valuesOfVariables() {
        MirrorDesk desk = new MirrorDesk();
        for (int kind = 0; kind < 4; kind++) {
            desk.addVariable(kind, kind);
        }
        long[][] good = {{-2147483648L, 0, 2147483647L}, {Long.MIN_VALUE, 0, Long.MAX_VALUE},
            {0, 1, 65535}, {0, 1}};
        long[][] bad = {{-2147483649L, 2147483648L, Long.MIN_VALUE, Long.MAX_VALUE, 4294967296L}, {},
            {-1, 65536, Long.MIN_VALUE}, {-1, 2, 4294967297L}};
        for (int kind = 0; kind < 4; kind++) {
            for (long v : good[kind]) {
                Check.isTrue("kind " + kind + " holds " + v, desk.setVariable(kind, v));
            }
            for (long v : bad[kind]) {
                Check.isFalse("kind " + kind + " holds " + v, desk.setVariable(kind, v));
            }
        }
        int[] none = {-1, 4, 26, 27, Integer.MIN_VALUE, Integer.MAX_VALUE};
        for (int name : none) {
            Check.isFalse("no variable " + name, desk.setVariable(name, 0));
        }
        desk.setVariable(0, 5);
        Check.isFalse("too large", desk.setVariable(0, 2147483648L));
        desk.run(false);
        Check.isFalse("while stopped", desk.setVariable(0, 6));
        Check.same("it works", Desks.work(desk, 0, "a"), Desks.VALUE);
        Check.same("what was refused changed nothing", desk.value(0), 5);
    }

    private static void references() {
        MirrorDesk desk = new MirrorDesk();
        desk.addClass(-1);
        desk.addClass(0);
        desk.addClass(-1);
        int[] kinds = {Desks.A, Desks.B, Desks.C, Desks.INTS, Desks.ARRAY_OF_A, Desks.ARRAY_OF_B};
        boolean[][] due = {
            {true, false, false, false, false, false},
            {true, true, false, false, false, false},
            {false, false, true, false, false, false},
            {false, false, false, true, false, false},
            {false, false, false, false, true, false},
            {false, false, false, false, false, true}};
        for (int i = 0; i < kinds.length; i++) {
            desk.make(kinds[i], 2);
            desk.addVariable(i, kinds[i]);
        }
        for (int object = 0; object < kinds.length; object++) {
            for (int name = 0; name < kinds.length; name++) {
                Check.same("object of kind " + kinds[object] + " fits " + kinds[name],
                        desk.setVariable(name, object + 1), due[object][name]);
            }
        }
        Check.isTrue("null fits", desk.setVariable(0, 0));
        Check.isFalse("no object 7", desk.setVariable(0, 7));
        Check.isFalse("no object -1", desk.setVariable(0, -1));
        Check.isFalse("no object above all ints", desk.setVariable(0, 4294967297L));
        Check.isTrue("element", desk.setPart(5, 1, 2));
        Check.isFalse("element that does not fit", desk.setPart(6, 1, 1));
        Check.isFalse("element of another class", desk.setPart(5, 1, 3));
        Check.isTrue("null as element", desk.setPart(5, 1, 0));
    }

    private static void parts() {
        MirrorDesk desk = new MirrorDesk();
        desk.addClass(-1);
        desk.addClass(0);
        desk.addField(0, 0, Desks.INT);
        desk.addField(1, 25, Desks.CHAR);
        desk.make(Desks.A, 0);
        desk.make(Desks.B, 0);
        desk.make(Desks.INTS, 3);
        desk.make(Desks.INTS, 0);
        Check.isTrue("own field", desk.setPart(1, 0, -1));
        Check.isTrue("inherited field", desk.setPart(2, 0, -1));
        Check.isTrue("own field of B", desk.setPart(2, 25, 65535));
        Check.isFalse("B's field of an A", desk.setPart(1, 25, 1));
        Check.isFalse("no value of its kind", desk.setPart(2, 25, -1));
        Check.isFalse("no field b", desk.setPart(1, 1, 0));
        int[] none = {-1, 3, 5, 25, 26, 27, Integer.MIN_VALUE, Integer.MAX_VALUE};
        for (int part : none) {
            Check.isFalse("no element " + part, desk.setPart(3, part, 0));
        }
        int[] noField = {-1, 24, 26, 27, Integer.MIN_VALUE, Integer.MAX_VALUE};
        for (int part : noField) {
            Check.isFalse("no field " + part, desk.setPart(2, part, 0));
        }
        Check.isTrue("first element", desk.setPart(3, 0, 1));
        Check.isTrue("last element", desk.setPart(3, 2, 2147483647));
        Check.isFalse("too large an element", desk.setPart(3, 2, 2147483648L));
        Check.isFalse("no element at all", desk.setPart(4, 0, 0));
        int[] noObject = {-1, 0, 5, 13, Integer.MIN_VALUE, Integer.MAX_VALUE};
        for (int object : noObject) {
            Check.isFalse("no object " + object, desk.setPart(object, 0, 0));
        }
        desk.run(false);
        Check.isFalse("while stopped", desk.setPart(1, 0, 0));
        desk.run(true);
        Check.isTrue("while it runs again", desk.setPart(1, 0, 0));
    }

    private static void sixClasses() {
        MirrorDesk desk = new MirrorDesk();
        for (int type = 0; type < 6; type++) {
            desk.addClass(-1);
        }
        for (int type = 0; type < 6; type++) {
            Check.isTrue("field of a class", desk.addField(type, 0, Desks.A + type));
            Check.isTrue("field of an array", desk.addField(type, 25, Desks.ARRAY_OF_A + type));
            Check.isTrue("variable of an array", desk.addVariable(type, Desks.ARRAY_OF_A + type));
            Check.same("object", desk.make(Desks.A + type, 0), 2 * type + 1);
            Check.same("array", desk.make(Desks.ARRAY_OF_A + type, 5), 2 * type + 2);
        }
        for (int type = 0; type < 6; type++) {
            Check.isTrue("itself", desk.setPart(2 * type + 1, 0, 2 * type + 1));
            Check.isTrue("its array", desk.setPart(2 * type + 1, 25, 2 * type + 2));
            Check.isFalse("an array is no object of the class", desk.setPart(2 * type + 1, 0, 2 * type + 2));
            Check.isFalse("the name behind z", desk.setPart(2 * type + 1, 26, 0));
            Check.isFalse("the name before a", desk.setPart(2 * type + 1, -1, 0));
            Check.isTrue("last element", desk.setPart(2 * type + 2, 4, 2 * type + 1));
            Check.isTrue("variable", desk.setVariable(type, 2 * type + 2));
            Check.isFalse("another array", desk.setVariable(type, 2 * (type + 1) % 12 + 2));
        }
    }

    private static void fieldsOfLaterDate() {
        MirrorDesk desk = new MirrorDesk();
        desk.addClass(-1);
        desk.make(Desks.A, 0);
        desk.addVariable(0, Desks.A);
        desk.setVariable(0, 1);
        Check.isTrue("a field that comes after the object", desk.addField(0, 0, Desks.INT));
        desk.run(false);
        Check.same("it is there", Desks.work(desk, 0, "a.a"), Desks.VALUE);
        Check.same("and 0", desk.value(0), 0);
        desk.run(true);
        Check.isTrue("it can be set", desk.setPart(1, 0, 7));
        desk.run(false);
        Desks.work(desk, 0, "a.a");
        Check.same("and read", desk.value(0), 7);
    }

    private static void runAndLine() {
        MirrorDesk desk = new MirrorDesk();
        Check.isFalse("it runs", desk.run(true));
        Check.isTrue("stop", desk.run(false));
        Check.isFalse("it is stopped", desk.run(false));
        Check.isTrue("let it run", desk.run(true));
        Check.isFalse("it runs again", desk.run(true));
        Check.isFalse("the line is whole", desk.line(true));
        Check.isTrue("break it while it runs", desk.line(false));
        Check.isFalse("it is broken", desk.line(false));
        Check.isTrue("stop with a broken line", desk.run(false));
        Check.isTrue("make it again while stopped", desk.line(true));
        Check.isFalse("it is made", desk.line(true));
        Check.isTrue("break it while stopped", desk.line(false));
        Check.isTrue("run with a broken line", desk.run(true));
        Check.isTrue("make it again while it runs", desk.line(true));
    }
}
