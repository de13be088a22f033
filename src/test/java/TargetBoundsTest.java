/**
 * The document's sentences on kinds and on the target (Terms, promises 1 to 9), one after another:
 * each at its bound, just inside it and just beyond it. The sentence stands above its test.
 */
public final class TargetBoundsTest {
    private static final int F = 9;
    private static final int ARRAY_OF_F = 16;

    private TargetBoundsTest() {
    }

    public static void main(String[] args) {
        bitsOfNumbers();
        kindsOfClasses();
        kindOfNull();
        numericKinds();
        referenceKinds();
        extendingWhatWasThere();
        beingAllThoseAbove();
        fitting();
        related();
        fieldsOfClassesAbove();
        namesOfVariables();
        sortsOfThis();
        twelveObjects();
        lengthsOfArrays();
        numbersOfObjects();
        allZeroAtFirst();
        runningAtFirst();
        newObject();
        parents();
        sixClasses();
        typesOfFields();
        namesOfFields();
        kindsOfFields();
        fieldsThatAreThere();
        variablesThatAreThere();
        makingKinds();
        makingWhileStopped();
        settingVariables();
        settingParts();
        everStopped();
        stoppingTwice();
        breakingTwice();
        Check.end();
    }

    /** A desk with so many classes, none of which extends another. */
    private static MirrorDesk withClasses(int classes) {
        MirrorDesk desk = new MirrorDesk();
        for (int type = 0; type < classes; type++) {
            desk.addClass(-1);
        }
        return desk;
    }

    /** A is extended by B and C, B by D, D by E; F is apart. */
    private static MirrorDesk family() {
        MirrorDesk desk = new MirrorDesk();
        int[] parents = {-1, 0, 0, 1, 3, -1};
        for (int parent : parents) {
            desk.addClass(parent);
        }
        return desk;
    }

    private static final boolean[][] FAMILY = {
        {true, false, false, false, false, false},
        {true, true, false, false, false, false},
        {true, false, true, false, false, false},
        {true, true, false, true, false, false},
        {true, true, false, true, true, false},
        {false, false, false, false, false, true}};

    private static void readsAs(String what, MirrorDesk desk, String text, long due) {
        Check.same(what + ": state of " + text, Desks.work(desk, 0, text), Desks.VALUE);
        Check.same(what + ": value of " + text, desk.value(0), due);
    }

    /** Whether a variable, a field and (of ints) an element hold the value, and what they hold then. */
    private static void holds(int kind, long v, boolean due) {
        MirrorDesk desk = withClasses(1);
        desk.addField(0, 0, kind);
        desk.addVariable(0, kind);
        desk.addVariable(1, Desks.A);
        desk.addVariable(2, Desks.INTS);
        desk.make(Desks.A, 0);
        desk.make(Desks.INTS, 1);
        desk.setVariable(0, 1);
        desk.setVariable(1, 1);
        desk.setVariable(2, 2);
        desk.setPart(1, 0, 1);
        desk.setPart(2, 0, 1);
        String what = "kind " + kind + ", " + v;
        Check.same(what + ": variable", desk.setVariable(0, v), due);
        Check.same(what + ": field", desk.setPart(1, 0, v), due);
        if (kind == Desks.INT) {
            Check.same(what + ": element", desk.setPart(2, 0, v), due);
        }
        desk.run(false);
        readsAs(what, desk, "a", due ? v : 1);
        readsAs(what, desk, "b.a", due ? v : 1);
        if (kind == Desks.INT) {
            readsAs(what, desk, "c[0]", due ? v : 1);
        }
    }

    // "0 int (32 bits), 1 long (64 bits), 2 char (0 .. 65535), 3 boolean (0 or 1)"
    private static void bitsOfNumbers() {
        long[] ints = {-2147483648L, -2147483647L, -1, 0, 1, 65535, 65536, 2147483646L, 2147483647L};
        long[] noInts = {-2147483649L, 2147483648L, 4294967295L, 4294967296L, -4294967296L, Long.MIN_VALUE,
            Long.MAX_VALUE};
        long[] longs = {Long.MIN_VALUE, Long.MIN_VALUE + 1, -2147483649L, -1, 0, 2147483648L,
            Long.MAX_VALUE - 1, Long.MAX_VALUE};
        long[] chars = {0, 1, 255, 256, 32767, 32768, 65534, 65535};
        long[] noChars = {-1, -2, 65536, 65537, 131072, 4294967296L, Long.MIN_VALUE, Long.MAX_VALUE};
        long[] noBooleans = {-1, 2, 3, 256, 4294967296L, 4294967297L, Long.MIN_VALUE, Long.MAX_VALUE};
        holdsAll(Desks.INT, ints, true);
        holdsAll(Desks.INT, noInts, false);
        holdsAll(Desks.LONG, longs, true);
        holdsAll(Desks.CHAR, chars, true);
        holdsAll(Desks.CHAR, noChars, false);
        holdsAll(Desks.BOOLEAN, new long[] {0, 1}, true);
        holdsAll(Desks.BOOLEAN, noBooleans, false);
    }

    private static void holdsAll(int kind, long[] values, boolean due) {
        for (long v : values) {
            holds(kind, v, due);
        }
    }

    // "4 .. 9 the classes A .. F, 10 arrays of ints, 11 .. 16 arrays of A .. F"
    private static void kindsOfClasses() {
        MirrorDesk desk = withClasses(6);
        desk.run(false);
        for (int type = 0; type < 6; type++) {
            char name = (char) ('A' + type);
            Desks.eval(desk, 0, "(" + name + ")null");
            Check.same("kind of " + name, desk.look(0, 1), Desks.A + type);
            Desks.eval(desk, 0, "(" + name + "[])null");
            Check.same("kind of arrays of " + name, desk.look(0, 1), Desks.ARRAY_OF_A + type);
            Desks.eval(desk, 0, "((" + name + "[])null)[0]");
            Check.same("kind of elements of " + name, desk.look(0, 1), Desks.A + type);
        }
        Desks.eval(desk, 0, "(int[])null");
        Check.same("kind of arrays of ints", desk.look(0, 1), 10);
        Desks.eval(desk, 0, "((int[])null)[0]");
        Check.same("kind of their elements", desk.look(0, 1), Desks.INT);
    }

    // "(17 is the kind of null, in results alone.)"
    private static void kindOfNull() {
        MirrorDesk desk = withClasses(6);
        int[] beyond = {17, 18};
        for (int kind : beyond) {
            Check.isFalse("field of kind " + kind, desk.addField(0, 0, kind));
            Check.isFalse("variable of kind " + kind, desk.addVariable(0, kind));
            Check.isFalse("this of kind " + kind, desk.addVariable(26, kind));
            Check.same("object of kind " + kind, desk.make(kind, 0), -1);
        }
        Check.isTrue("field of kind 16", desk.addField(0, 0, ARRAY_OF_F));
        Check.isTrue("variable of kind 16", desk.addVariable(0, ARRAY_OF_F));
        Check.same("object of kind 16", desk.make(ARRAY_OF_F, 0), 1);
        desk.run(false);
        Desks.eval(desk, 0, "null");
        Check.same("kind of null", desk.look(0, 1), 17);
        Desks.eval(desk, 0, "true?null:null");
        Check.same("kind of null and null", desk.look(0, 1), 17);
    }

    private static int stateWith(int kind, String text) {
        MirrorDesk desk = withClasses(6);
        if (kind < 17) {
            desk.addVariable(0, kind);
        }
        desk.run(false);
        return Desks.eval(desk, 0, kind < 17 ? text : text.replace("a", "null"));
    }

    // "0, 1, 2 are NUMERIC"
    private static void numericKinds() {
        for (int kind = 0; kind < 18; kind++) {
            int due = kind <= 2 ? Desks.WAITS : Desks.ILL_TYPED;
            Check.same("-a of kind " + kind, stateWith(kind, "-a"), due);
            Check.same("1*a of kind " + kind, stateWith(kind, "1*a"), due);
        }
    }

    // "4 .. 17 are REFERENCES"
    private static void referenceKinds() {
        for (int kind = 0; kind < 18; kind++) {
            int worked = kind == 17 ? Desks.VALUE : Desks.WAITS;
            Check.same("a==null of kind " + kind, stateWith(kind, "a==null"),
                    kind >= 4 ? worked : Desks.ILL_TYPED);
        }
    }

    // "A class may EXTEND one that was there before"
    private static void extendingWhatWasThere() {
        for (int classes = 0; classes < 6; classes++) {
            for (int parent = -3; parent < 8; parent++) {
                boolean there = parent >= -1 && parent < classes;
                Check.same("class " + classes + " extends " + parent,
                        withClasses(classes).addClass(parent), there ? classes : -1);
            }
        }
    }

    // ".. and by that those which this one extends; it IS itself and all those"
    private static void beingAllThoseAbove() {
        for (int one = 0; one < 6; one++) {
            for (int other = 0; other < 6; other++) {
                MirrorDesk desk = family();
                desk.addVariable(0, Desks.A + other);
                desk.make(Desks.A + one, 0);
                Check.same("class " + one + " is " + other, desk.setVariable(0, 1), FAMILY[one][other]);
            }
        }
        MirrorDesk line = new MirrorDesk();
        for (int type = 0; type < 6; type++) {
            line.addClass(type - 1);
            line.addVariable(type, Desks.A + type);
        }
        line.make(F, 0);
        line.make(Desks.A, 0);
        for (int type = 0; type < 6; type++) {
            Check.isTrue("F is class " + type + " of the line", line.setVariable(type, 1));
            Check.same("A is class " + type + " of the line", line.setVariable(type, 2), type == 0);
        }
    }

    // "A kind FITS another: if it is that; a class that IS the other one; null fits every reference."
    private static void fitting() {
        for (int one = 4; one < 17; one++) {
            for (int other = 4; other < 17; other++) {
                MirrorDesk desk = family();
                desk.addVariable(0, other);
                desk.make(one, 2);
                boolean classes = one <= F && other <= F;
                boolean due = classes ? FAMILY[one - 4][other - 4] : one == other;
                Check.same("kind " + one + " fits " + other, desk.setVariable(0, 1), due);
                Check.isTrue("null fits " + other, desk.setVariable(0, 0));
            }
        }
    }

    // "Two references are RELATED if one fits the other."
    private static void related() {
        for (int one = 4; one < 17; one++) {
            for (int other = 4; other < 17; other++) {
                MirrorDesk desk = family();
                desk.addVariable(0, one);
                desk.addVariable(1, other);
                desk.run(false);
                boolean classes = one <= F && other <= F;
                boolean due = one == other
                        || classes && (FAMILY[one - 4][other - 4] || FAMILY[other - 4][one - 4]);
                Check.same("kinds " + one + " and " + other + " are related",
                        Desks.eval(desk, 0, "a==b"), due ? Desks.WAITS : Desks.ILL_TYPED);
                Check.same("null and " + other + " are related", Desks.eval(desk, 0, "null==b"),
                        Desks.WAITS);
            }
        }
    }

    // "A class has FIELDS, its own and those of the classes that it extends"
    private static void fieldsOfClassesAbove() {
        for (int type = 0; type < 6; type++) {
            for (int owner = 0; owner < 6; owner++) {
                MirrorDesk desk = family();
                desk.addField(owner, 3, Desks.INT);
                desk.addVariable(0, Desks.A + type);
                desk.make(Desks.A + type, 0);
                boolean has = FAMILY[type][owner];
                Check.same("object of " + type + " has " + owner + "'s field", desk.setPart(1, 3, 5), has);
                desk.setVariable(0, 1);
                desk.run(false);
                Check.same("class " + type + " has " + owner + "'s field", Desks.work(desk, 0, "a.d"),
                        has ? Desks.VALUE : Desks.ILL_TYPED);
                Check.same("its value", desk.value(0), has ? 5 : 0);
            }
        }
    }

    // "THE TARGET has VARIABLES with names a .. z and THIS (name 26), of a kind each"
    private static void namesOfVariables() {
        int[] none = {-1, 27, 28, Integer.MIN_VALUE, Integer.MAX_VALUE};
        MirrorDesk desk = withClasses(1);
        for (int name = 0; name <= 26; name++) {
            Check.isTrue("variable " + name, desk.addVariable(name, name == 26 ? Desks.A : Desks.INT));
        }
        for (int name : none) {
            Check.isFalse("no variable " + name, desk.addVariable(name, Desks.INT));
            Check.isFalse("no variable " + name + " of a class", desk.addVariable(name, Desks.A));
            Check.isFalse("none to set " + name, desk.setVariable(name, 0));
        }
        desk.make(Desks.A, 0);
        for (int name = 0; name <= 26; name++) {
            Check.isTrue("set variable " + name, desk.setVariable(name, name == 26 ? 1 : 100 + name));
        }
        desk.run(false);
        for (int name = 0; name < 26; name++) {
            readsAs("variable " + name, desk, String.valueOf((char) ('a' + name)), 100 + name);
        }
        readsAs("this", desk, "this", 1);
    }

    // "Adds a variable (0 .. 25) or this (26) .. this is to be of a kind that is no class"
    private static void sortsOfThis() {
        for (int kind = -2; kind < 20; kind++) {
            boolean isClass = kind >= Desks.A && kind <= F;
            Check.same("this of kind " + kind, withClasses(6).addVariable(26, kind), isClass);
            boolean isKind = kind >= 0 && kind <= ARRAY_OF_F;
            Check.same("z of kind " + kind, withClasses(6).addVariable(25, kind), isKind);
        }
        Check.isFalse("this of a class that is not there", withClasses(5).addVariable(26, F));
        Check.isTrue("this of the last class", withClasses(5).addVariable(26, F - 1));
    }

    // "at most 12 OBJECTS, numbered 1, 2, .. as they are made"
    private static void twelveObjects() {
        MirrorDesk desk = withClasses(2);
        desk.addField(0, 0, Desks.INT);
        int[] kinds = {Desks.A, Desks.INTS, Desks.ARRAY_OF_B};
        for (int object = 1; object <= 12; object++) {
            Check.same("object " + object, desk.make(kinds[object % 3], object % 6), object);
            Check.isFalse("the next is not there", desk.setPart(object + 1, 0, 0));
        }
        for (int kind : kinds) {
            Check.same("a thirteenth of kind " + kind, desk.make(kind, 1), -1);
        }
        desk.run(false);
        desk.run(true);
        Check.same("a thirteenth later", desk.make(Desks.A, 0), -1);
        Check.isTrue("a field of the twelfth", desk.setPart(12, 0, 1));
        Check.isFalse("none of a thirteenth", desk.setPart(13, 0, 1));
    }

    // "or arrays with 0 to 5 elements" and promise 5: "an array's length is not 0 .. 5"
    private static void lengthsOfArrays() {
        int[] kinds = {Desks.INTS, Desks.ARRAY_OF_A, ARRAY_OF_F};
        int[] bad = {-1, -2, 6, 7, 12, 256, Integer.MIN_VALUE, Integer.MAX_VALUE};
        for (int kind : kinds) {
            for (int length : bad) {
                MirrorDesk desk = withClasses(6);
                Check.same("length " + length + " of kind " + kind, desk.make(kind, length), -1);
                Check.same("it was not made", desk.make(kind, 0), 1);
            }
            for (int length = 0; length <= 5; length++) {
                lengthOfArray(kind, length);
            }
        }
        for (int length : bad) {
            Check.same("length does not matter: " + length, withClasses(1).make(Desks.A, length), 1);
        }
    }

    private static void lengthOfArray(int kind, int length) {
        MirrorDesk desk = withClasses(6);
        desk.addVariable(0, kind);
        Check.same("length " + length + " of kind " + kind, desk.make(kind, length), 1);
        desk.setVariable(0, 1);
        for (int part = -1; part <= 6; part++) {
            Check.same("element " + part + " of " + length, desk.setPart(1, part, 0),
                    part >= 0 && part < length);
        }
        desk.run(false);
        readsAs("length", desk, "a.length", length);
        for (int part = -1; part <= 6; part++) {
            Check.same("a[" + part + "] of " + length, Desks.work(desk, 0, "a[" + part + "]"),
                    part >= 0 && part < length ? Desks.VALUE : Desks.EXCEPTION);
        }
    }

    // "The value of a reference is the number of an object, or 0: null."
    private static void numbersOfObjects() {
        MirrorDesk desk = withClasses(2);
        desk.addVariable(0, Desks.A);
        desk.addField(0, 0, Desks.A);
        desk.make(Desks.A, 0);
        desk.make(Desks.B, 0);
        desk.make(Desks.A, 0);
        desk.make(Desks.ARRAY_OF_A, 1);
        long[] good = {1, 0, 3};
        long[] bad = {-1, 2, 4, 5, 12, 13, 4294967296L, 4294967297L, -4294967295L, Long.MIN_VALUE,
            Long.MAX_VALUE, 256 + 1, 65536 + 1};
        for (long v : good) {
            Check.isTrue("variable is " + v, desk.setVariable(0, v));
            Check.isTrue("field is " + v, desk.setPart(1, 0, v));
            Check.isTrue("element is " + v, desk.setPart(4, 0, v));
        }
        for (long v : bad) {
            Check.isFalse("variable is " + v, desk.setVariable(0, v));
            Check.isFalse("field is " + v, desk.setPart(1, 0, v));
            Check.isFalse("element is " + v, desk.setPart(4, 0, v));
        }
        desk.run(false);
        readsAs("the last that was good", desk, "a", 3);
        readsAs("it is an object", desk, "a==null", 0);
    }

    // "All values are 0 at first."
    private static void allZeroAtFirst() {
        MirrorDesk desk = withClasses(1);
        int[] kinds = {Desks.INT, Desks.LONG, Desks.CHAR, Desks.BOOLEAN, Desks.A, Desks.INTS,
            Desks.ARRAY_OF_A};
        for (int i = 0; i < kinds.length; i++) {
            desk.addVariable(i, kinds[i]);
            desk.addField(0, i, kinds[i]);
        }
        desk.addVariable(7, Desks.A);
        desk.addVariable(8, Desks.INTS);
        desk.addVariable(9, Desks.ARRAY_OF_A);
        desk.addVariable(26, Desks.A);
        desk.make(Desks.A, 3);
        desk.make(Desks.INTS, 5);
        desk.make(Desks.ARRAY_OF_A, 5);
        desk.setVariable(7, 1);
        desk.setVariable(8, 2);
        desk.setVariable(9, 3);
        desk.run(false);
        for (char name = 'a'; name <= 'g'; name++) {
            readsAs("at first", desk, String.valueOf(name), 0);
            readsAs("at first", desk, "h." + name, 0);
        }
        readsAs("at first", desk, "this", 0);
        for (int part = 0; part < 5; part++) {
            readsAs("at first", desk, "i[" + part + "]", 0);
            readsAs("at first", desk, "j[" + part + "]", 0);
        }
    }

    // "It RUNS (at first) or is STOPPED." and promise 1: "the target runs, the line is not broken"
    private static void runningAtFirst() {
        Check.isFalse("it runs at first", new MirrorDesk().run(true));
        Check.isTrue("so it can be stopped", new MirrorDesk().run(false));
        Check.isFalse("the line is whole at first", new MirrorDesk().line(true));
        Check.isTrue("so it can be broken", new MirrorDesk().line(false));
        Check.same("no evaluation begins", new MirrorDesk().eval(0), -1);
    }

    // Promise 1: "No classes, variables, objects or texts"
    private static void newObject() {
        Check.same("no class to extend", new MirrorDesk().addClass(0), -1);
        Check.isFalse("no class for a field", new MirrorDesk().addField(0, 0, 0));
        Check.isFalse("no class as a kind", new MirrorDesk().addVariable(0, Desks.A));
        for (int name = 0; name <= 26; name++) {
            Check.isFalse("no variable " + name, new MirrorDesk().setVariable(name, 0));
        }
        Check.isFalse("no object 1", new MirrorDesk().setPart(1, 0, 0));
        Check.same("the first object is 1", new MirrorDesk().make(Desks.INTS, 0), 1);
        Check.same("no text is written", new MirrorDesk().count(0), 0);
        MirrorDesk desk = Desks.stopped();
        for (int e = 0; e < 4; e++) {
            Check.same("no text of evaluation " + e, desk.again(e), -1);
            Check.same("no state", desk.look(e, 0), 0);
        }
    }

    // Promise 2: "Adds a class that extends another one (-1: none) .. -1 (refused) if there is no such
    // class to extend"
    private static void parents() {
        int[] bad = {-2, -3, 2, 3, 5, 6, 256, Integer.MIN_VALUE, Integer.MAX_VALUE};
        for (int parent : bad) {
            MirrorDesk desk = withClasses(2);
            Check.same("parent " + parent, desk.addClass(parent), -1);
            Check.same("the next number is free", desk.addClass(-1), 2);
        }
        for (int parent = -1; parent < 2; parent++) {
            Check.same("parent " + parent, withClasses(2).addClass(parent), 2);
        }
    }

    // Promise 2: "its number 0 .. 5. -1 (refused) if .. six are there"
    private static void sixClasses() {
        MirrorDesk desk = new MirrorDesk();
        for (int type = 0; type < 6; type++) {
            Check.same("class " + type, desk.addClass(type % 2 - 1), type);
        }
        for (int parent = -1; parent < 7; parent++) {
            Check.same("a seventh that extends " + parent, desk.addClass(parent), -1);
        }
        Check.isTrue("the sixth has fields", desk.addField(5, 0, F));
        Check.isFalse("a seventh has none", desk.addField(6, 0, F));
    }

    // Promise 3: "false (refused) if there is no such class"
    private static void typesOfFields() {
        for (int classes = 0; classes <= 6; classes++) {
            for (int type = -2; type < 8; type++) {
                Check.same(classes + " classes, a field of " + type,
                        withClasses(classes).addField(type, 0, Desks.INT), type >= 0 && type < classes);
            }
        }
        int[] far = {4, 9, 256, Integer.MIN_VALUE, Integer.MAX_VALUE};
        for (int type : far) {
            Check.isFalse("a field of " + type, withClasses(3).addField(type, 0, Desks.INT));
        }
    }

    // Promise 3: "name (0 .. 25)"
    private static void namesOfFields() {
        MirrorDesk desk = withClasses(2);
        int[] none = {-1, -2, 26, 27, 51, 256, Integer.MIN_VALUE, Integer.MAX_VALUE};
        for (int type = 0; type < 2; type++) {
            for (int name : none) {
                Check.isFalse("no field " + name, desk.addField(type, name, Desks.INT));
            }
            desk.make(Desks.A + type, 0);
            desk.addVariable(type, Desks.A + type);
            desk.setVariable(type, type + 1);
        }
        for (int name = 0; name <= 25; name++) {
            Check.isTrue("field " + name + " of A", desk.addField(0, name, Desks.INT));
            Check.isTrue("set field " + name + " of A", desk.setPart(1, name, 100 + name));
        }
        Check.isTrue("field z of B", desk.addField(1, 25, Desks.LONG));
        Check.isTrue("set field z of B", desk.setPart(2, 25, 77));
        for (int name : none) {
            Check.isFalse("none to set " + name, desk.setPart(1, name, 1));
            Check.isFalse("none to set " + name, desk.setPart(2, name, 1));
        }
        desk.run(false);
        for (int name = 0; name <= 25; name++) {
            readsAs("field " + name, desk, "a." + (char) ('a' + name), 100 + name);
        }
        readsAs("field z of B", desk, "b.z", 77);
        Check.same("B has no a", Desks.eval(desk, 0, "b.a"), Desks.ILL_TYPED);
    }

    // Promise 3: "or kind (those of classes, and their arrays, as far as these were added; never 17)",
    // promise 4: "if there is no such kind", promise 5: "if there is no such kind of objects"
    private static void kindsOfFields() {
        for (int classes = 1; classes <= 6; classes++) {
            for (int kind = -2; kind < 20; kind++) {
                boolean simple = kind >= 0 && kind <= 3;
                boolean object = kind >= 4 && kind < 4 + classes || kind == 10
                        || kind >= 11 && kind < 11 + classes;
                String what = classes + " classes, kind " + kind;
                Check.same(what + ": field", withClasses(classes).addField(0, 0, kind), simple || object);
                Check.same(what + ": variable", withClasses(classes).addVariable(0, kind), simple || object);
                Check.same(what + ": object", withClasses(classes).make(kind, 1), object ? 1 : -1);
            }
        }
        int[] far = {256, 260, 65536, Integer.MIN_VALUE, Integer.MIN_VALUE + 4, Integer.MAX_VALUE};
        for (int kind : far) {
            Check.isFalse("field of kind " + kind, withClasses(6).addField(0, 0, kind));
            Check.isFalse("variable of kind " + kind, withClasses(6).addVariable(0, kind));
            Check.same("object of kind " + kind, withClasses(6).make(kind, 1), -1);
        }
    }

    // Promise 3: "the class or one that it extends or that extends it, by whatever steps, has a field of
    // this name"
    private static void fieldsThatAreThere() {
        for (int owner = 0; owner < 6; owner++) {
            for (int type = 0; type < 6; type++) {
                MirrorDesk desk = family();
                desk.addField(owner, 7, Desks.LONG);
                boolean near = FAMILY[owner][type] || FAMILY[type][owner];
                String what = owner + " has the field, " + type + " gets it";
                Check.same(what, desk.addField(type, 7, Desks.INT), !near);
                Check.isTrue(what + ": another name", desk.addField(type, 8, Desks.INT));
                Check.isTrue(what + ": the name before", desk.addField(type, 6, Desks.INT));
            }
        }
        MirrorDesk line = new MirrorDesk();
        for (int type = 0; type < 6; type++) {
            line.addClass(type - 1);
        }
        Check.isTrue("the first of a line", line.addField(0, 0, Desks.INT));
        Check.isFalse("the last of it inherits that", line.addField(5, 0, Desks.INT));
        Check.isTrue("the last of a line", line.addField(5, 25, Desks.INT));
        Check.isFalse("the first of it is extended by that", line.addField(0, 25, Desks.INT));
    }

    // Promise 4: "false (refused) if .. it is there"
    private static void variablesThatAreThere() {
        MirrorDesk desk = withClasses(2);
        int[] names = {0, 1, 25, 26};
        for (int name : names) {
            Check.isTrue("variable " + name, desk.addVariable(name, Desks.A));
            for (int kind = 0; kind < 6; kind++) {
                Check.isFalse("again " + name + " of kind " + kind, desk.addVariable(name, kind));
            }
        }
        Check.isTrue("the name behind one that is there", desk.addVariable(2, Desks.INT));
        Check.isTrue("the name before one that is there", desk.addVariable(24, Desks.INT));
        desk.make(Desks.B, 0);
        desk.make(Desks.A, 0);
        for (int name : names) {
            Check.isFalse("its kind is what it was", desk.setVariable(name, 1));
            Check.isTrue("its kind is what it was", desk.setVariable(name, 2));
        }
    }

    // Promise 5: "Makes an object of a class (length does not matter) or an array: its number."
    private static void makingKinds() {
        for (int kind = -1; kind <= 17; kind++) {
            int due = kind >= 4 && kind <= 16 ? 1 : -1;
            Check.same("object of kind " + kind, withClasses(6).make(kind, 5), due);
        }
        Check.same("no class F yet", withClasses(5).make(F, 0), -1);
        Check.same("no arrays of F yet", withClasses(5).make(ARRAY_OF_F, 0), -1);
        Check.same("E is there", withClasses(5).make(F - 1, 0), 1);
        Check.same("arrays of E are there", withClasses(5).make(ARRAY_OF_F - 1, 0), 1);
        Check.same("arrays of ints need no class", new MirrorDesk().make(Desks.INTS, 0), 1);
    }

    // Promise 5: "-1 (refused) if .. the target is stopped"
    private static void makingWhileStopped() {
        MirrorDesk desk = withClasses(1);
        Check.same("while it runs", desk.make(Desks.A, 0), 1);
        desk.run(false);
        Check.same("while it is stopped", desk.make(Desks.A, 0), -1);
        Check.same("arrays likewise", desk.make(Desks.INTS, 1), -1);
        desk.run(true);
        Check.same("when it runs again", desk.make(Desks.A, 0), 2);
        desk.line(false);
        Check.same("whether the line is broken or not", desk.make(Desks.A, 0), 3);
    }

    // Promise 6: "false (refused) if there is none, v is no value of its kind (of a reference: neither 0
    // nor an object that fits), or the target is stopped"
    private static void settingVariables() {
        MirrorDesk desk = family();
        desk.addVariable(3, Desks.INT);
        desk.addVariable(4, Desks.B);
        int[] none = {-1, 0, 2, 5, 25, 26, 27, 256 + 3, Integer.MIN_VALUE, Integer.MAX_VALUE};
        for (int name : none) {
            Check.isFalse("no variable " + name, desk.setVariable(name, 0));
        }
        int[] kinds = {Desks.A, Desks.B, Desks.C, Desks.D, 8, F};
        boolean[] due = {false, true, false, true, true, false};
        for (int i = 0; i < kinds.length; i++) {
            Check.isFalse("object " + (i + 1) + " is not made yet", desk.setVariable(4, i + 1));
            desk.make(kinds[i], 0);
            Check.same("object of kind " + kinds[i] + " fits B", desk.setVariable(4, i + 1), due[i]);
        }
        Check.isTrue("null", desk.setVariable(4, 0));
        desk.run(false);
        Check.isFalse("while stopped", desk.setVariable(3, 1));
        Check.isFalse("while stopped, what it is", desk.setVariable(3, 0));
        desk.run(true);
        Check.isTrue("when it runs again", desk.setVariable(3, 1));
        desk.line(false);
        Check.isTrue("while the line is broken", desk.setVariable(3, 2));
        desk.line(true);
        desk.run(false);
        readsAs("the last value", desk, "d", 2);
    }

    // Promise 7: "Sets a field (its name) of an object or an element (its index) of an array: true; false
    // (refused) if there is none, v is no value of its kind, or the target is stopped."
    private static void settingParts() {
        MirrorDesk desk = family();
        desk.addField(1, 4, Desks.C);
        desk.make(Desks.B, 0);
        desk.make(Desks.ARRAY_OF_A, 5);
        desk.make(Desks.C, 0);
        desk.make(Desks.INTS, 1);
        int[] noObject = {-1, 0, 5, 6, 12, 13, 256 + 1, Integer.MIN_VALUE, Integer.MAX_VALUE};
        for (int object : noObject) {
            for (int part = -1; part < 6; part++) {
                Check.isFalse("no object " + object, desk.setPart(object, part, 0));
            }
        }
        int[] far = {26, 27, 28, 256, Integer.MIN_VALUE, Integer.MAX_VALUE};
        for (int object = 1; object <= 4; object++) {
            for (int part = -1; part < 26; part++) {
                boolean due = object == 1 && part == 4 || object == 2 && part >= 0 && part < 5
                        || object == 4 && part == 0;
                Check.same("part " + part + " of " + object, desk.setPart(object, part, 0), due);
            }
            for (int part : far) {
                Check.isFalse("part " + part + " of " + object, desk.setPart(object, part, 0));
            }
        }
        Check.isTrue("a C as a C", desk.setPart(1, 4, 3));
        Check.isFalse("a B as a C", desk.setPart(1, 4, 1));
        Check.isTrue("a C as an A", desk.setPart(2, 4, 3));
        Check.isFalse("an array as an A", desk.setPart(2, 4, 2));
        Check.isFalse("too large an int", desk.setPart(4, 0, 2147483648L));
        desk.run(false);
        Check.isFalse("while stopped", desk.setPart(1, 4, 0));
        Check.isFalse("while stopped", desk.setPart(4, 0, 0));
        desk.run(true);
        Check.isTrue("when it runs again", desk.setPart(1, 4, 0));
    }

    // Promises 2, 3 and 4: "or the target was ever stopped"
    private static void everStopped() {
        for (int times = 0; times <= 4; times++) {
            MirrorDesk desk = withClasses(1);
            desk.run(true);
            desk.line(false);
            desk.line(true);
            for (int n = 0; n < times; n++) {
                desk.run(n % 2 == 1);
            }
            String what = times + " times stopped or let run";
            Check.same(what + ": class", desk.addClass(-1), times == 0 ? 1 : -1);
            Check.same(what + ": field", desk.addField(0, 0, Desks.INT), times == 0);
            Check.same(what + ": variable", desk.addVariable(0, Desks.INT), times == 0);
            Check.same(what + ": this", desk.addVariable(26, Desks.A), times == 0);
        }
    }

    // Promise 8: "Stops the target (false) or lets it run (true): true; false (refused) if it is so."
    private static void stoppingTwice() {
        MirrorDesk desk = new MirrorDesk();
        for (int n = 0; n < 3; n++) {
            Check.isFalse("it runs", desk.run(true));
            Check.isTrue("stop", desk.run(false));
            Check.isFalse("it is stopped", desk.run(false));
            Check.isFalse("it is still stopped", desk.run(false));
            Check.isTrue("let it run", desk.run(true));
        }
    }

    // Promise 9: "Breaks the line (false) or makes it again (true), whether the target runs or not: true;
    // false (refused) if it is so."
    private static void breakingTwice() {
        MirrorDesk desk = new MirrorDesk();
        for (int n = 0; n < 4; n++) {
            Check.isFalse("it is whole", desk.line(true));
            Check.isTrue("break it", desk.line(false));
            Check.isFalse("it is broken", desk.line(false));
            Check.isFalse("it is still broken", desk.line(false));
            Check.isTrue("make it again", desk.line(true));
            desk.run(n % 2 == 1);
        }
    }
}
