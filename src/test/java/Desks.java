/** What the tests do with a desk again and again. */
final class Desks {
    static final int INT = 0;
    static final int LONG = 1;
    static final int CHAR = 2;
    static final int BOOLEAN = 3;
    static final int A = 4;
    static final int B = 5;
    static final int C = 6;
    static final int D = 7;
    static final int INTS = 10;
    static final int ARRAY_OF_A = 11;
    static final int ARRAY_OF_B = 12;
    static final int NULL = 17;

    static final int WAITS = 1;
    static final int VALUE = 2;
    static final int EXCEPTION = 3;
    static final int ILL_FORMED = 4;
    static final int ILL_TYPED = 5;
    static final int REFUSED = 6;
    static final int CUT = 7;
    static final int STALE = 8;

    private Desks() {
    }

    static void write(MirrorDesk desk, String text) {
        for (int i = 0; i < text.length(); i++) {
            if (!desk.put(text.charAt(i))) {
                throw new IllegalArgumentException("can't be put: " + text);
            }
        }
    }

    static int eval(MirrorDesk desk, int e, String text) {
        write(desk, text);
        return desk.eval(e);
    }

    /** Evaluates and answers requests until nothing waits; tells the state. */
    static int work(MirrorDesk desk, int e, String text) {
        eval(desk, e, text);
        for (int n = 0; n < 400 && desk.look(e, 0) == WAITS; n++) {
            desk.answer(0);
        }
        return desk.look(e, 0);
    }

    /** A stopped desk with neither variables nor classes. */
    static MirrorDesk stopped() {
        MirrorDesk desk = new MirrorDesk();
        desk.run(false);
        return desk;
    }

    static int name(char c) {
        return c - 'a';
    }

    /** Expects of a request the four things that it tells. */
    static void request(String what, MirrorDesk desk, int k, int sort, int of, int part, int before) {
        Check.same(what + ": sort", desk.request(k, 0), sort);
        Check.same(what + ": variable or object", desk.request(k, 1), of);
        Check.same(what + ": part", desk.request(k, 2), part);
        Check.same(what + ": sent before", desk.request(k, 3), before);
    }

    static void counts(String what, MirrorDesk desk, int waiting, int sent, int known) {
        Check.same(what + ": waiting", desk.count(1), waiting);
        Check.same(what + ": sent", desk.count(2), sent);
        Check.same(what + ": known", desk.count(3), known);
    }
}
