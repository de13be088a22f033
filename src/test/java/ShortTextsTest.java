/**
 * Every text of up to three characters, and longer ones over fewer characters, on a desk and on the model
 * of the document: their states, kinds and values alike.
 */
public final class ShortTextsTest {
    private static final String MANY = all();
    private static final String SOME = "ab1L'() .?:-!~<>=&|[]A0c";
    private static final String FEW = "a1'(-)<>=&|.L ";
    private static final int CALLS = 512;

    private MirrorDesk desk;
    private DeskModel model;
    private int calls;
    private long texts;
    private long wrong;

    private ShortTextsTest() {
        begin();
    }

    public static void main(String[] args) {
        ShortTextsTest test = new ShortTextsTest();
        for (int length = 0; length <= 3; length++) {
            test.all(MANY, new char[length], 0);
        }
        test.all(SOME, new char[4], 0);
        test.all(FEW, new char[5], 0);
        System.out.println(test.texts + " texts");
        Check.same("texts of which the answers differ", test.wrong, 0);
        Check.end();
    }

    private static String all() {
        StringBuilder text = new StringBuilder();
        for (char c = 32; c <= 126; c++) {
            text.append(c);
        }
        return text.toString();
    }

    /** a: int, b: boolean, c: A with a field a: int, d: int[]; and the same in the model. */
    private void begin() {
        desk = new MirrorDesk();
        model = new DeskModel();
        desk.addClass(-1);
        model.addClass(-1);
        desk.addField(0, 0, Desks.INT);
        model.addField(0, 0, Desks.INT);
        int[] kinds = {Desks.INT, Desks.BOOLEAN, Desks.A, Desks.INTS};
        for (int i = 0; i < kinds.length; i++) {
            desk.addVariable(i, kinds[i]);
            model.addVariable(i, kinds[i]);
        }
        desk.run(false);
        model.run(false);
        calls = 7;
    }

    private void all(String signs, char[] text, int at) {
        if (at == text.length) {
            compare(text);
            return;
        }
        for (int i = 0; i < signs.length(); i++) {
            text[at] = signs.charAt(i);
            all(signs, text, at + 1);
        }
    }

    private void compare(char[] text) {
        if (calls + text.length + 3 > CALLS) {
            begin();
        }
        for (char c : text) {
            desk.put(c);
            model.put(c);
        }
        calls += text.length + 3;
        texts++;
        boolean alike = desk.eval(0) == model.eval(0) && desk.look(0, 1) == model.look(0, 1)
                && desk.value(0) == model.value(0);
        if (!alike) {
            wrong++;
            if (wrong <= 20) {
                System.out.println("\"" + new String(text) + "\" answers " + desk.look(0,
                        0) + " " + desk.look(0, 1)
                        + " " + desk.value(0) + ", due is " + model.look(0, 0) + " " + model.look(0, 1) + " "
                        + model.value(0));
            }
        }
    }
}
