import java.util.Random;

/**
 * Runs of calls made at random, on a desk and on the model of the document: all answers alike, of the 512
 * calls that an object is used for.
 */
public final class RandomRunsTest {
    private static final int RUNS = 20000;
    private static final int CALLS = 512;
    // The rest of the calls is kept for a last look at everything.
    private static final int CALLS_BEFORE_LAST_LOOK = 370;

    private final Random random;
    private final MirrorDesk desk = new MirrorDesk();
    private final DeskModel model = new DeskModel();
    private final StringBuilder story = new StringBuilder();
    private final int[] variables = new int[27];
    private final int[][] fields = new int[6][4];
    private final boolean wild;
    private final int evals;
    private RandomTexts texts;
    private int calls;
    private int mostWaiting;
    private boolean alike = true;

    private RandomRunsTest(long seed) {
        random = new Random(seed);
        wild = random.nextInt(10) == 0;
        evals = 10 + random.nextInt(80);
    }

    public static void main(String[] args) {
        long first = args.length > 0 ? Long.parseLong(args[0]) : 1;
        long runs = args.length > 1 ? Long.parseLong(args[1]) : RUNS;
        int[] states = new int[9];
        int mostWaiting = 0;
        for (long seed = first; seed < first + runs; seed++) {
            RandomRunsTest run = new RandomRunsTest(seed);
            run.all(states);
            mostWaiting = Math.max(mostWaiting, run.mostWaiting);
            Check.isTrue("run " + seed + ":\n" + (run.alike ? "" : run.story), run.alike);
        }
        StringBuilder seen = new StringBuilder("states of evaluations:");
        for (int state = 1; state < states.length; state++) {
            seen.append(' ').append(states[state]);
            Check.isTrue("state " + state + " was seen", states[state] > 0);
        }
        System.out.println(seen + ", most requests: " + mostWaiting);
        Check.end();
    }

    private void all(int[] states) {
        setUp();
        texts = new RandomTexts(random, variables, fields);
        int patience = 5 + random.nextInt(60);
        while (calls < CALLS_BEFORE_LAST_LOOK && alike) {
            if (wild) {
                wildCall();
            } else {
                likelyCall(patience);
            }
            for (int e = 0; e < 4; e++) {
                states[model.look(e, 0)]++;
            }
            lookAround();
            mostWaiting = Math.max(mostWaiting, model.count(1));
        }
        lookAtEverything();
    }

    private void same(String call, long got, long due) {
        if (calls >= CALLS || !alike) {
            return;
        }
        calls++;
        story.append(call).append(" = ").append(due).append('\n');
        if (got != due) {
            alike = false;
            story.append("but the desk answered ").append(got).append('\n');
        }
    }

    private static long number(boolean b) {
        return b ? 1 : 0;
    }

    private void look(int e, int what) {
        same("look " + e + " " + what, desk.look(e, what), model.look(e, what));
    }

    private void value(int e) {
        same("value " + e, desk.value(e), model.value(e));
    }

    private void count(int what) {
        same("count " + what, desk.count(what), model.count(what));
    }

    private void request(int k, int what) {
        same("request " + k + " " + what, desk.request(k, what), model.request(k, what));
    }

    private void lookAround() {
        int e = random.nextInt(4);
        look(e, random.nextInt(3));
        value(e);
        count(random.nextInt(4));
        request(random.nextInt(model.count(1) + 1), random.nextInt(4));
    }

    private void lookAtEverything() {
        for (int what = -1; what < 5; what++) {
            count(what);
        }
        for (int e = -1; e < 5; e++) {
            for (int what = -1; what < 4; what++) {
                look(e, what);
            }
            value(e);
        }
        for (int k = -1; k <= model.count(1); k++) {
            for (int what = 0; what < 5; what++) {
                request(k, what);
            }
        }
    }

    private void addClass(int parent) {
        same("addClass " + parent, desk.addClass(parent), model.addClass(parent));
    }

    private boolean addField(int type, int name, int kind) {
        boolean due = model.addField(type, name, kind);
        same("addField " + type + " " + name + " " + kind, number(desk.addField(type, name, kind)),
                number(due));
        return due;
    }

    private boolean addVariable(int name, int kind) {
        boolean due = model.addVariable(name, kind);
        same("addVariable " + name + " " + kind, number(desk.addVariable(name, kind)), number(due));
        return due;
    }

    private void make(int kind, int length) {
        same("make " + kind + " " + length, desk.make(kind, length), model.make(kind, length));
    }

    private void setVariable(int name, long v) {
        same("setVariable " + name + " " + v, number(desk.setVariable(name, v)),
                number(model.setVariable(name, v)));
    }

    private void setPart(int object, int part, long v) {
        same("setPart " + object + " " + part + " " + v, number(desk.setPart(object, part, v)),
                number(model.setPart(object, part, v)));
    }

    private void run(boolean on) {
        same("run " + on, number(desk.run(on)), number(model.run(on)));
    }

    private void line(boolean on) {
        same("line " + on, number(desk.line(on)), number(model.line(on)));
    }

    private void eval(int e, String text) {
        for (char c : text.toCharArray()) {
            same("put " + c, number(desk.put(c)), number(model.put(c)));
        }
        if (calls < CALLS) {
            same("eval " + e, desk.eval(e), model.eval(e));
        }
    }

    private void again(int e) {
        same("again " + e, desk.again(e), model.again(e));
    }

    private void answer(int k) {
        same("answer " + k, desk.answer(k), model.answer(k));
    }

    private void refuse(int k) {
        same("refuse " + k, desk.refuse(k), model.refuse(k));
    }

    private int kind() {
        return random.nextInt(3) == 0 ? random.nextInt(20) - 1 : 4 + random.nextInt(13);
    }

    private void setUp() {
        java.util.Arrays.fill(variables, -1);
        int classes = random.nextInt(7);
        for (int type = 0; type < classes; type++) {
            addClass(random.nextInt(type + 1) - 1);
        }
        for (int[] row : fields) {
            java.util.Arrays.fill(row, -1);
        }
        for (int n = random.nextInt(20); n > 0 && classes > 0; n--) {
            int type = random.nextInt(classes);
            int name = random.nextInt(4);
            int kind = random.nextInt(2) == 0 ? random.nextInt(4) : kind();
            if (addField(type, name, kind)) {
                fields[type][name] = kind;
            }
        }
        for (int n = random.nextInt(27); n > 0; n--) {
            int name = random.nextInt(27);
            int kind = random.nextInt(2) == 0 ? random.nextInt(4) : kind();
            if (addVariable(name, kind)) {
                variables[name] = kind;
            }
        }
        for (int n = random.nextInt(16); n > 0; n--) {
            make(kind(), random.nextInt(6));
        }
        change(random.nextInt(60));
        if (random.nextInt(8) != 0) {
            run(false);
        }
    }

    private long anyValue() {
        long[] some = {0, 1, 2, 3, -1, 65535, 65536, 2147483647L, 2147483648L, -2147483648L,
            -2147483649L, Long.MAX_VALUE, Long.MIN_VALUE};
        return random.nextInt(3) != 0 ? random.nextInt(14) : some[random.nextInt(some.length)];
    }

    private void change(int times) {
        for (int n = 0; n < times; n++) {
            if (random.nextInt(3) == 0) {
                setVariable(random.nextInt(28) - random.nextInt(2), anyValue());
            } else {
                setPart(random.nextInt(14), random.nextInt(5), anyValue());
            }
        }
    }

    private void likelyCall(int patience) {
        int chance = random.nextInt(100);
        if (chance < evals) {
            eval(random.nextInt(4), texts.next());
        } else if (chance < 75) {
            answer(random.nextInt(Math.max(1, model.count(1))));
        } else if (chance < 82) {
            refuse(random.nextInt(Math.max(1, model.count(1))));
        } else if (chance < 92) {
            again(random.nextInt(4));
        } else if (random.nextInt(patience) < 6) {
            stir();
        }
    }

    private void stir() {
        switch (random.nextInt(4)) {
            case 0:
                line(random.nextBoolean());
                line(true);
                break;
            case 1:
                run(true);
                change(random.nextInt(10));
                make(kind(), random.nextInt(6));
                run(false);
                break;
            case 2:
                run(random.nextBoolean());
                break;
            default:
                run(false);
                break;
        }
    }

    private int anyInt() {
        int[] some = {-1, 4, 5, 26, 27, 28, 100, Integer.MIN_VALUE, Integer.MAX_VALUE};
        return random.nextInt(3) != 0 ? random.nextInt(8) : some[random.nextInt(some.length)];
    }

    private void wildCall() {
        switch (random.nextInt(13)) {
            case 0:
                addClass(anyInt());
                break;
            case 1:
                addField(anyInt(), anyInt(), anyInt());
                break;
            case 2:
                addVariable(anyInt(), anyInt());
                break;
            case 3:
                make(anyInt(), anyInt());
                break;
            case 4:
                setVariable(anyInt(), anyValue());
                break;
            case 5:
                setPart(anyInt(), anyInt(), anyValue());
                break;
            case 6:
                run(random.nextBoolean());
                break;
            case 7:
                line(random.nextInt(4) != 0);
                break;
            case 8:
                again(anyInt());
                break;
            case 9:
                answer(anyInt());
                break;
            case 10:
                refuse(anyInt());
                break;
            case 11:
                char c = (char) random.nextInt(140);
                same("put " + (int) c, number(desk.put(c)), number(model.put(c)));
                break;
            default:
                eval(anyInt(), texts.next());
                break;
        }
    }
}
