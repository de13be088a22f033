import java.util.Arrays;

/**
 * A desk from which a program that has been stopped somewhere else is looked at: expressions of a
 * typed language are read, checked and worked out over its variables and objects, whose contents
 * are asked for one by one over a line that may answer late, refuse, or break.
 */
public final class MirrorDesk {
    private static final int NO_KIND = -1;
    private static final int INT = 0;
    private static final int LONG = 1;
    private static final int CHAR = 2;
    private static final int BOOLEAN = 3;
    private static final int FIRST_CLASS = 4;
    private static final int LAST_CLASS = 9;
    private static final int INT_ARRAY = 10;
    private static final int FIRST_CLASS_ARRAY = 11;
    private static final int LAST_CLASS_ARRAY = 16;
    private static final int NULL_KIND = 17;

    private static final int MOST_CLASSES = 6;
    private static final int FIELD_NAMES = 26;
    private static final int THIS_NAME = 26;
    private static final int MOST_OBJECTS = 12;
    private static final int LONGEST_ARRAY = 5;

    // A piece has a place: variables stand in row 0, by name, and an object in the row of its
    // number: its fields by name or its elements by index, then its length and its kind. So one
    // number tells what is asked for, and the contents of a place are the answer.
    private static final int LENGTH_PART = 26;
    private static final int CLASS_PART = 27;
    private static final int PARTS = 28;
    private static final int PLACES = PARTS * (MOST_OBJECTS + 1);

    private static final int MOST_CHARACTERS = 40;
    private static final int MOST_TOKENS = 24;
    private static final int MOST_OPEN = 6;
    private static final int MOST_CHOICES = 4;
    private static final int MOST_DIGITS = 10;
    private static final int MOST_LONG_DIGITS = 18;
    // No token brings more than two steps: && and || bring one to skip and one to join.
    private static final int MOST_STEPS = 2 * MOST_TOKENS;
    // Above every int, but good behind a - of its own.
    private static final long BELOW_MINUS_ONLY = 2147483648L;
    private static final int BAD = -1;
    // The level of the signs between two operands that bind most.
    private static final int TIGHTEST = 10;

    // Codes of tokens and of steps. A sign of one character has that character as its code.
    private static final int NO_TOKEN = 0;
    private static final int AT_MOST = 128;
    private static final int AT_LEAST = 129;
    private static final int SHIFT_LEFT = 130;
    private static final int SHIFT_RIGHT = 131;
    private static final int SHIFT_IN_ZEROS = 132;
    private static final int EQUAL = 133;
    private static final int UNEQUAL = 134;
    private static final int AND_THEN = 135;
    private static final int OR_ELSE = 136;
    private static final int CONSTANT = 137;
    private static final int NAME = 138;
    private static final int THIS = 139;
    private static final int TYPE = 140;
    private static final int INSTANCEOF = 141;
    private static final int LENGTH = 142;
    private static final int VARIABLE = 143;
    private static final int FIELD = 144;
    private static final int INDEX = 145;
    private static final int CAST = 146;
    private static final int PLUS = 147;
    private static final int NEGATE = 148;
    private static final int CHOICE = 149;
    private static final int SKIP = 150;
    private static final int SKIP_IF_FALSE = 151;
    private static final int SKIP_IF_TRUE = 152;

    private static final int MOST_EVALUATIONS = 4;
    private static final int NONE = 0;
    private static final int WAITS = 1;
    private static final int VALUE = 2;
    private static final int EXCEPTION = 3;
    private static final int ILL_FORMED = 4;
    private static final int ILL_TYPED = 5;
    private static final int REFUSED = 6;
    private static final int CUT = 7;
    private static final int STALE = 8;

    private static final int DIVIDED_BY_ZERO = 1;
    private static final int NULL_USED = 2;
    private static final int OUT_OF_ARRAY = 3;
    private static final int CAST_FAILED = 4;

    private final Target target;
    private final Line lineToTarget;
    private final Evaluation[] evaluations = new Evaluation[MOST_EVALUATIONS];
    private final char[] written = new char[MOST_CHARACTERS];
    private int writtenLength;

    public MirrorDesk() {
        Target newTarget = new Target();
        Line newLine = new Line();
        Reader reader = new Reader();
        Checker checker = new Checker(newTarget);
        for (int e = 0; e < MOST_EVALUATIONS; e++) {
            evaluations[e] = new Evaluation(newTarget, newLine, reader, checker);
        }
        target = newTarget;
        lineToTarget = newLine;
    }

    public int addClass(int parent) {
        return target.extendClass(parent);
    }

    public boolean addField(int type, int name, int kind) {
        return target.declareField(type, name, kind);
    }

    public boolean addVariable(int name, int kind) {
        return target.declareVariable(name, kind);
    }

    public int make(int kind, int length) {
        return target.create(kind, length);
    }

    public boolean setVariable(int name, long v) {
        return target.storeVariable(name, v);
    }

    public boolean setPart(int object, int part, long v) {
        return target.storePart(object, part, v);
    }

    public boolean run(boolean on) {
        if (!target.switchTo(on)) {
            return false;
        }
        if (on) {
            endWaiting(STALE);
        }
        return true;
    }

    public boolean line(boolean on) {
        if (!lineToTarget.switchTo(on)) {
            return false;
        }
        if (!on) {
            endWaiting(CUT);
        }
        return true;
    }

    public boolean put(char c) {
        if (c < 32 || c > 126 || writtenLength == MOST_CHARACTERS) {
            return false;
        }
        written[writtenLength] = c;
        writtenLength++;
        return true;
    }

    public int eval(int e) {
        if (!isEvaluation(e) || target.runs()) {
            return -1;
        }
        evaluations[e].takeText(written, writtenLength);
        writtenLength = 0;
        return evaluations[e].begin();
    }

    public int again(int e) {
        if (!isEvaluation(e) || target.runs() || evaluations[e].state() == NONE) {
            return -1;
        }
        return evaluations[e].begin();
    }

    public int request(int k, int what) {
        if (!lineToTarget.hasRequest(k)) {
            return -1;
        }
        int place = lineToTarget.placeAsked(k);
        int object = place / PARTS;
        int part = place % PARTS;
        switch (what) {
            case 0:
                return target.sortOfPiece(object, part);
            case 1:
                return object == 0 ? part : object;
            case 2:
                return object == 0 || part >= LENGTH_PART ? 0 : part;
            case 3:
                return lineToTarget.sentBefore(k);
            default:
                return -1;
        }
    }

    public int answer(int k) {
        if (!lineToTarget.hasRequest(k)) {
            return -1;
        }
        int place = lineToTarget.placeAsked(k);
        lineToTarget.drop(k);
        lineToTarget.learn(place);
        int waited = 0;
        for (int e = 0; e < MOST_EVALUATIONS; e++) {
            if (evaluations[e].waitsFor(place)) {
                waited++;
                evaluations[e].goOn();
            }
        }
        return waited;
    }

    public int refuse(int k) {
        if (!lineToTarget.hasRequest(k)) {
            return -1;
        }
        int place = lineToTarget.placeAsked(k);
        lineToTarget.drop(k);
        int waited = 0;
        for (int e = 0; e < MOST_EVALUATIONS; e++) {
            if (evaluations[e].waitsFor(place)) {
                waited++;
                evaluations[e].stopWaiting(REFUSED);
            }
        }
        return waited;
    }

    public int look(int e, int what) {
        if (!isEvaluation(e)) {
            return -1;
        }
        switch (what) {
            case 0:
                return evaluations[e].state();
            case 1:
                return evaluations[e].kind();
            case 2:
                return evaluations[e].exception();
            default:
                return -1;
        }
    }

    public long value(int e) {
        return isEvaluation(e) ? evaluations[e].result() : 0;
    }

    public int count(int what) {
        switch (what) {
            case 0:
                return writtenLength;
            case 1:
                return lineToTarget.waitingCount();
            case 2:
                return lineToTarget.sentCount();
            case 3:
                return lineToTarget.knownCount();
            default:
                return -1;
        }
    }

    private static boolean isEvaluation(int e) {
        return e >= 0 && e < MOST_EVALUATIONS;
    }

    private void endWaiting(int endState) {
        lineToTarget.forget();
        for (int e = 0; e < MOST_EVALUATIONS; e++) {
            if (evaluations[e].state() == WAITS) {
                evaluations[e].stopWaiting(endState);
            }
        }
    }

    private static int placeOf(int object, int part) {
        return object * PARTS + part;
    }

    /** What the kinds tell by their numbers alone, whichever classes are there. */
    private static final class Kinds {
        static boolean isNumeric(int kind) {
            return kind >= INT && kind <= CHAR;
        }

        static boolean isClass(int kind) {
            return kind >= FIRST_CLASS && kind <= LAST_CLASS;
        }

        static boolean isArray(int kind) {
            return kind >= INT_ARRAY && kind <= LAST_CLASS_ARRAY;
        }

        static boolean isReference(int kind) {
            return kind >= FIRST_CLASS && kind <= NULL_KIND;
        }

        static int elementOf(int array) {
            return array == INT_ARRAY ? INT : array - FIRST_CLASS_ARRAY + FIRST_CLASS;
        }

        static int arrayOf(int element) {
            if (element == INT) {
                return INT_ARRAY;
            }
            return isClass(element) ? element - FIRST_CLASS + FIRST_CLASS_ARRAY : NO_KIND;
        }

        static int common(int one, int other) {
            if (!isNumeric(one) || !isNumeric(other)) {
                return NO_KIND;
            }
            return one == LONG || other == LONG ? LONG : INT;
        }

        static int promoted(int kind) {
            return common(kind, INT);
        }

        static boolean areBoolean(int one, int other) {
            return one == BOOLEAN && other == BOOLEAN;
        }

        /** Every value is held as a long; this takes the lowest bits that its kind has. */
        static long narrowed(int kind, long v) {
            if (kind == INT) {
                return (int) v;
            }
            return kind == CHAR ? (char) v : v;
        }
    }

    /** The program that is looked at: classes, and variables and objects with their contents. */
    private static final class Target {
        private final int[] parents = new int[MOST_CLASSES];
        private final int[] fieldKinds = new int[MOST_CLASSES * FIELD_NAMES];
        private final int[] variableKinds = new int[THIS_NAME + 1];
        private final long[] contents = new long[PLACES];
        private int classes;
        private int objects;
        private boolean running = true;
        private boolean everStopped;

        Target() {
            Arrays.fill(fieldKinds, NO_KIND);
            Arrays.fill(variableKinds, NO_KIND);
        }

        boolean runs() {
            return running;
        }

        boolean switchTo(boolean on) {
            if (running == on) {
                return false;
            }
            running = on;
            everStopped = true;
            return true;
        }

        int extendClass(int parent) {
            if (everStopped || classes == MOST_CLASSES || parent < -1 || parent >= classes) {
                return -1;
            }
            parents[classes] = parent;
            classes++;
            return classes - 1;
        }

        boolean declareField(int type, int name, int kind) {
            if (everStopped || type < 0 || type >= classes || name < 0 || name >= FIELD_NAMES) {
                return false;
            }
            if (!isThere(kind) || isFieldNear(type, name)) {
                return false;
            }
            fieldKinds[type * FIELD_NAMES + name] = kind;
            return true;
        }

        boolean declareVariable(int name, int kind) {
            if (everStopped || !isThere(kind) || name < 0 || name > THIS_NAME) {
                return false;
            }
            if (name == THIS_NAME && !Kinds.isClass(kind) || variableKinds[name] != NO_KIND) {
                return false;
            }
            variableKinds[name] = kind;
            return true;
        }

        int create(int kind, int length) {
            boolean array = Kinds.isArray(kind);
            if (!running || objects == MOST_OBJECTS || !isThere(kind)) {
                return -1;
            }
            if (!Kinds.isReference(kind) || array && (length < 0 || length > LONGEST_ARRAY)) {
                return -1;
            }
            objects++;
            contents[placeOf(objects, LENGTH_PART)] = array ? length : 0;
            contents[placeOf(objects, CLASS_PART)] = kind;
            return objects;
        }

        boolean storeVariable(int name, long v) {
            if (!running || !isValue(kindOfVariable(name), v)) {
                return false;
            }
            contents[placeOf(0, name)] = v;
            return true;
        }

        boolean storePart(int object, int part, long v) {
            if (!running || !isValue(kindOfPart(object, part), v)) {
                return false;
            }
            contents[placeOf(object, part)] = v;
            return true;
        }

        /** The kind of a variable or of this; NO_KIND if there is none. */
        int kindOfVariable(int name) {
            return name >= 0 && name <= THIS_NAME ? variableKinds[name] : NO_KIND;
        }

        /** The kind of a field that a class has or inherits; NO_KIND if there is none. */
        int kindOfField(int kind, int name) {
            if (!Kinds.isClass(kind) || name < 0 || name >= FIELD_NAMES) {
                return NO_KIND;
            }
            int type = kind - FIRST_CLASS;
            for (int n = 0; n < MOST_CLASSES && type >= 0; n++) {
                if (fieldKinds[type * FIELD_NAMES + name] != NO_KIND) {
                    return fieldKinds[type * FIELD_NAMES + name];
                }
                type = parents[type];
            }
            return NO_KIND;
        }

        boolean isThere(int kind) {
            if (Kinds.isClass(kind)) {
                return kind - FIRST_CLASS < classes;
            }
            if (kind >= FIRST_CLASS_ARRAY && kind <= LAST_CLASS_ARRAY) {
                return kind - FIRST_CLASS_ARRAY < classes;
            }
            return kind >= INT && kind <= BOOLEAN || kind == INT_ARRAY;
        }

        boolean fits(int kind, int other) {
            if (kind == other) {
                return true;
            }
            if (Kinds.isClass(kind) && Kinds.isClass(other)) {
                return isA(kind - FIRST_CLASS, other - FIRST_CLASS);
            }
            return kind == NULL_KIND && Kinds.isReference(other);
        }

        boolean areRelated(int one, int other) {
            return Kinds.isReference(one) && Kinds.isReference(other)
                    && (fits(one, other) || fits(other, one));
        }

        long contentsOf(int place) {
            return contents[place];
        }

        /** Which of the pieces 0 .. 4 stands at this part of this row. */
        int sortOfPiece(int object, int part) {
            if (object == 0) {
                return 0;
            }
            if (part == LENGTH_PART) {
                return 3;
            }
            if (part == CLASS_PART) {
                return 4;
            }
            return Kinds.isArray(kindOfObject(object)) ? 2 : 1;
        }

        private int kindOfObject(int object) {
            return (int) contents[placeOf(object, CLASS_PART)];
        }

        private int kindOfPart(int object, int part) {
            if (object < 1 || object > objects) {
                return NO_KIND;
            }
            int kind = kindOfObject(object);
            if (Kinds.isClass(kind)) {
                return kindOfField(kind, part);
            }
            boolean inside = part >= 0 && part < contents[placeOf(object, LENGTH_PART)];
            return inside ? Kinds.elementOf(kind) : NO_KIND;
        }

        private boolean isValue(int kind, long v) {
            switch (kind) {
                case NO_KIND:
                    return false;
                case INT:
                case CHAR:
                    return v == Kinds.narrowed(kind, v);
                case LONG:
                    return true;
                case BOOLEAN:
                    return v == 0 || v == 1;
                default:
                    return v == 0 || v > 0 && v <= objects && fits(kindOfObject((int) v), kind);
            }
        }

        private boolean isA(int type, int other) {
            int above = type;
            for (int n = 0; n < MOST_CLASSES && above >= 0; n++) {
                if (above == other) {
                    return true;
                }
                above = parents[above];
            }
            return false;
        }

        private boolean isFieldNear(int type, int name) {
            for (int other = 0; other < classes; other++) {
                boolean near = isA(type, other) || isA(other, type);
                if (near && fieldKinds[other * FIELD_NAMES + name] != NO_KIND) {
                    return true;
                }
            }
            return false;
        }
    }

    /** The line to the target: the requests that wait, and the pieces that are known. */
    private static final class Line {
        // A row for each object and the variables, with a bit for each part.
        private final int[] known = new int[MOST_OBJECTS + 1];
        // One place is asked for by one request at most, so the list is never longer.
        private final int[] asked = new int[PLACES];
        private final int[] sentBefore = new int[PLACES];
        private int waiting;
        private int sent;
        private boolean broken;

        boolean switchTo(boolean whole) {
            if (broken != whole) {
                return false;
            }
            broken = !whole;
            return true;
        }

        boolean knows(int place) {
            return (known[place / PARTS] >> (place % PARTS) & 1) == 1;
        }

        void learn(int place) {
            known[place / PARTS] |= 1 << (place % PARTS);
        }

        /** Sees to it that a request for the place waits; false if the line is broken. */
        boolean ask(int place) {
            if (broken) {
                return false;
            }
            for (int k = 0; k < waiting; k++) {
                if (asked[k] == place) {
                    return true;
                }
            }
            if (waiting < PLACES) {
                asked[waiting] = place;
                sentBefore[waiting] = sent;
                waiting++;
                sent++;
            }
            return true;
        }

        boolean hasRequest(int k) {
            return k >= 0 && k < waiting;
        }

        int placeAsked(int k) {
            return asked[k];
        }

        int sentBefore(int k) {
            return sentBefore[k];
        }

        void drop(int k) {
            waiting--;
            for (int later = k; later < waiting; later++) {
                asked[later] = asked[later + 1];
                sentBefore[later] = sentBefore[later + 1];
            }
        }

        void forget() {
            waiting = 0;
            Arrays.fill(known, 0);
        }

        int waitingCount() {
            return waiting;
        }

        int sentCount() {
            return sent;
        }

        int knownCount() {
            int pieces = 0;
            for (int row : known) {
                pieces += Integer.bitCount(row);
            }
            return pieces;
        }
    }

    /** The tokens of one text; where a position behind one is told, BAD says that it is none. */
    private static final class Tokens {
        private final int[] codes = new int[MOST_TOKENS];
        private final int[] kinds = new int[MOST_TOKENS];
        private final long[] numbers = new long[MOST_TOKENS];
        private int size;
        private char[] text;
        private int length;

        boolean split(char[] newText, int newLength) {
            text = newText;
            length = newLength;
            size = 0;
            int at = 0;
            for (int n = 0; n < length && at < length; n++) {
                at = text[at] == ' ' ? at + 1 : readToken(at);
                if (at == BAD) {
                    return false;
                }
            }
            return true;
        }

        /** The code of a token, NO_TOKEN behind the last one. */
        int codeAt(int token) {
            return token < size ? codes[token] : NO_TOKEN;
        }

        /** A constant's value, a name 0 .. 25, or the kind that a type's word tells. */
        long numberAt(int token) {
            return token < size ? numbers[token] : 0;
        }

        int kindAt(int token) {
            return token < size ? kinds[token] : NO_KIND;
        }

        private int readToken(int at) {
            if (size == MOST_TOKENS) {
                return BAD;
            }
            char c = text[at];
            if (isLetter(c)) {
                int behind = behindLetters(at);
                return behind - at == 1 ? addLetter(c, behind) : addWord(at, behind);
            }
            if (isDigit(c)) {
                return readNumber(at);
            }
            return c == '\'' ? readCharacter(at) : readSign(at);
        }

        private int add(int code, int kind, long number, int behind) {
            codes[size] = code;
            kinds[size] = kind;
            numbers[size] = number;
            size++;
            return behind;
        }

        private int behindLetters(int at) {
            int behind = at;
            while (behind < length && isLetter(text[behind])) {
                behind++;
            }
            return behind;
        }

        private int behindDigits(int at) {
            int behind = at;
            while (behind < length && isDigit(text[behind])) {
                behind++;
            }
            return behind;
        }

        private int addLetter(char c, int behind) {
            if (c >= 'a' && c <= 'z') {
                return add(NAME, NO_KIND, c - 'a', behind);
            }
            return c >= 'A' && c <= 'F' ? add(TYPE, NO_KIND, FIRST_CLASS + c - 'A', behind) : BAD;
        }

        private int addWord(int at, int behind) {
            if (stands("true", at, behind)) {
                return add(CONSTANT, BOOLEAN, 1, behind);
            }
            if (stands("false", at, behind)) {
                return add(CONSTANT, BOOLEAN, 0, behind);
            }
            if (stands("null", at, behind)) {
                return add(CONSTANT, NULL_KIND, 0, behind);
            }
            if (stands("this", at, behind)) {
                return add(THIS, NO_KIND, 0, behind);
            }
            if (stands("int", at, behind)) {
                return add(TYPE, NO_KIND, INT, behind);
            }
            if (stands("long", at, behind)) {
                return add(TYPE, NO_KIND, LONG, behind);
            }
            if (stands("char", at, behind)) {
                return add(TYPE, NO_KIND, CHAR, behind);
            }
            if (stands("boolean", at, behind)) {
                return add(TYPE, NO_KIND, BOOLEAN, behind);
            }
            if (stands("instanceof", at, behind)) {
                return add(INSTANCEOF, NO_KIND, 0, behind);
            }
            return stands("length", at, behind) ? add(LENGTH, NO_KIND, 0, behind) : BAD;
        }

        private boolean stands(String word, int at, int behind) {
            if (word.length() != behind - at) {
                return false;
            }
            for (int i = 0; i < word.length(); i++) {
                if (word.charAt(i) != text[at + i]) {
                    return false;
                }
            }
            return true;
        }

        private int readNumber(int at) {
            int digitsEnd = behindDigits(at);
            boolean big = charAt(digitsEnd) == 'L';
            int behind = big ? digitsEnd + 1 : digitsEnd;
            int most = big ? MOST_LONG_DIGITS : MOST_DIGITS;
            if (digitsEnd - at > most || isLetter(charAt(behind))) {
                return BAD;
            }
            long number = 0;
            for (int i = at; i < digitsEnd; i++) {
                number = number * 10 + (text[i] - '0');
            }
            if (!big && number > BELOW_MINUS_ONLY) {
                return BAD;
            }
            return add(CONSTANT, big ? LONG : INT, number, behind);
        }

        private int readCharacter(int at) {
            char c = charAt(at + 1);
            if (c == '\'' || c == '\\' || charAt(at + 2) != '\'') {
                return BAD;
            }
            return add(CONSTANT, CHAR, c, at + 3);
        }

        private int readSign(int at) {
            int sign = signAt(at);
            if (sign == NO_TOKEN) {
                return BAD;
            }
            int width = sign < AT_MOST ? 1 : 2;
            return add(sign, NO_KIND, 0, at + (sign == SHIFT_IN_ZEROS ? 3 : width));
        }

        private int signAt(int at) {
            char c = text[at];
            char next = charAt(at + 1);
            switch (c) {
                case '<':
                    if (next == '<') {
                        return SHIFT_LEFT;
                    }
                    return next == '=' ? AT_MOST : c;
                case '>':
                    if (next == '>') {
                        return charAt(at + 2) == '>' ? SHIFT_IN_ZEROS : SHIFT_RIGHT;
                    }
                    return next == '=' ? AT_LEAST : c;
                case '=':
                    return next == '=' ? EQUAL : NO_TOKEN;
                case '!':
                    return next == '=' ? UNEQUAL : c;
                case '&':
                    return next == '&' ? AND_THEN : c;
                case '|':
                    return next == '|' ? OR_ELSE : c;
                default:
                    return "()[].?:+-*/%~^".indexOf(c) >= 0 ? c : NO_TOKEN;
            }
        }

        private char charAt(int at) {
            return at < length ? text[at] : (char) 0;
        }

        private static boolean isLetter(char c) {
            return c >= 'a' && c <= 'z' || c >= 'A' && c <= 'Z';
        }

        private static boolean isDigit(char c) {
            return c >= '0' && c <= '9';
        }
    }

    /**
     * An expression as the steps that work it out, in their order: a step comes behind those of its
     * operands, the last one is the whole expression, and a skip stands where operands may not be
     * needed. A step's values stand beside it, so that it can wait and go on from there.
     */
    private static final class Steps {
        private final int[] codes = new int[MOST_STEPS];
        private final int[] firsts = new int[MOST_STEPS];
        private final int[] seconds = new int[MOST_STEPS];
        private final int[] thirds = new int[MOST_STEPS];
        private final int[] kinds = new int[MOST_STEPS];
        private final long[] values = new long[MOST_STEPS];
        private int size;

        void clear() {
            size = 0;
        }

        int size() {
            return size;
        }

        int codeAt(int step) {
            return codes[step];
        }

        /** The step of the first operand. */
        int firstOf(int step) {
            return firsts[step];
        }

        /** The step of the second operand, or a name, a kind, or where a skip leads. */
        int secondOf(int step) {
            return seconds[step];
        }

        int thirdOf(int step) {
            return thirds[step];
        }

        int kindAt(int step) {
            return kinds[step];
        }

        void setKind(int step, int kind) {
            kinds[step] = kind;
        }

        long valueAt(int step) {
            return values[step];
        }

        void setValue(int step, long v) {
            values[step] = v;
        }

        int add(int code, int first, int second) {
            return addThree(code, first, second, 0);
        }

        int addThree(int code, int first, int second, int third) {
            if (size == MOST_STEPS) {
                return BAD;
            }
            codes[size] = code;
            firsts[size] = first;
            seconds[size] = second;
            thirds[size] = third;
            size++;
            return size - 1;
        }

        int addConstant(int kind, long number) {
            int step = addThree(CONSTANT, 0, 0, 0);
            if (step != BAD) {
                kinds[step] = kind;
                values[step] = number;
            }
            return step;
        }

        void leadSkip(int skip, int step) {
            seconds[skip] = step;
        }
    }

    /**
     * Reads a text into steps; a method tells the step of what it has read, or BAD. The depth grows
     * with a token that was passed, so it never exceeds their number, and readUnary, which every
     * round of the recursion comes through, refuses what would.
     */
    private static final class Reader {
        private final Tokens tokens = new Tokens();
        private Steps steps;
        private int at;
        private int open;
        private int choices;

        boolean reads(char[] text, int length, Steps into) {
            steps = into;
            steps.clear();
            at = 0;
            open = 0;
            choices = 0;
            if (!tokens.split(text, length) || readChoice(0) == BAD) {
                return false;
            }
            return tokens.codeAt(at) == NO_TOKEN;
        }

        private boolean takes(int code) {
            if (tokens.codeAt(at) != code) {
                return false;
            }
            at++;
            return true;
        }

        private int readChoice(int depth) {
            int condition = readBinary(1, depth);
            if (condition == BAD || !takes('?')) {
                return condition;
            }
            choices++;
            int toOther = steps.add(SKIP_IF_FALSE, condition, 0);
            int one = choices > MOST_CHOICES || toOther == BAD ? BAD : readChoice(depth + 1);
            if (one == BAD || !takes(':')) {
                return BAD;
            }
            int toEnd = steps.add(SKIP, condition, 0);
            steps.leadSkip(toOther, steps.size());
            int other = toEnd == BAD ? BAD : readChoice(depth + 1);
            if (other == BAD) {
                return BAD;
            }
            steps.leadSkip(toEnd, steps.size());
            return steps.addThree(CHOICE, condition, one, other);
        }

        /** Reads operands with signs that bind at least as much as the level tells. */
        private int readBinary(int level, int depth) {
            int left = readUnary(depth);
            // What binds more than the sign before it was read with that one's right operand, but
            // instanceof has none, so behind it such a sign could still stand, and must not.
            int mostLevel = TIGHTEST;
            for (int n = 0; n < MOST_TOKENS && left != BAD; n++) {
                int sign = tokens.codeAt(at);
                if (levelOf(sign) < level || levelOf(sign) > mostLevel) {
                    return left;
                }
                at++;
                mostLevel = levelOf(sign);
                left = sign == INSTANCEOF ? readClassBehind(left) : readRight(sign, left, depth);
            }
            return left;
        }

        private int readClassBehind(int left) {
            int kind = (int) tokens.numberAt(at);
            return takes(TYPE) && Kinds.isClass(kind) ? steps.add(INSTANCEOF, left, kind) : BAD;
        }

        private int readRight(int sign, int left, int depth) {
            if (sign != AND_THEN && sign != OR_ELSE) {
                int right = readBinary(levelOf(sign) + 1, depth + 1);
                return right == BAD ? BAD : steps.add(sign, left, right);
            }
            int skip = steps.add(sign == AND_THEN ? SKIP_IF_FALSE : SKIP_IF_TRUE, left, 0);
            int right = skip == BAD ? BAD : readBinary(levelOf(sign) + 1, depth + 1);
            if (right == BAD) {
                return BAD;
            }
            steps.leadSkip(skip, steps.size());
            return steps.add(sign, left, right);
        }

        /** How much a sign between two operands binds; 0 if it is none. */
        private static int levelOf(int sign) {
            switch (sign) {
                case OR_ELSE:
                    return 1;
                case AND_THEN:
                    return 2;
                case '|':
                    return 3;
                case '^':
                    return 4;
                case '&':
                    return 5;
                case EQUAL:
                case UNEQUAL:
                    return 6;
                case '<':
                case AT_MOST:
                case '>':
                case AT_LEAST:
                case INSTANCEOF:
                    return 7;
                case SHIFT_LEFT:
                case SHIFT_RIGHT:
                case SHIFT_IN_ZEROS:
                    return 8;
                case '+':
                case '-':
                    return 9;
                case '*':
                case '/':
                case '%':
                    return TIGHTEST;
                default:
                    return 0;
            }
        }

        private int readUnary(int depth) {
            if (depth > MOST_TOKENS) {
                return BAD;
            }
            int sign = tokens.codeAt(at);
            if (sign == '(' && tokens.codeAt(at + 1) == TYPE) {
                return readCast(depth);
            }
            int code = unaryCode(sign);
            if (code == NO_TOKEN) {
                return readOperand(depth);
            }
            at++;
            // Read here, the number is the whole operand: no part of it can follow.
            int operand = sign == '-' && isTooLarge() ? readConstant() : readUnary(depth + 1);
            return operand == BAD ? BAD : steps.add(code, operand, 0);
        }

        private static int unaryCode(int sign) {
            switch (sign) {
                case '+':
                    return PLUS;
                case '-':
                    return NEGATE;
                case '~':
                case '!':
                    return sign;
                default:
                    return NO_TOKEN;
            }
        }

        /** Whether the next number is good behind a - alone. */
        private boolean isTooLarge() {
            return tokens.kindAt(at) == INT && tokens.numberAt(at) == BELOW_MINUS_ONLY;
        }

        // Behind a bracket no type can stand but in a cast, so what is none is ill formed.
        private int readCast(int depth) {
            int kind = (int) tokens.numberAt(at + 1);
            at += 2;
            if (takes('[')) {
                kind = takes(']') ? Kinds.arrayOf(kind) : NO_KIND;
            }
            if (kind == NO_KIND || !takes(')')) {
                return BAD;
            }
            int operand = readUnary(depth + 1);
            return operand == BAD ? BAD : steps.add(CAST, operand, kind);
        }

        private int readOperand(int depth) {
            int operand = readFirst(depth);
            for (int n = 0; n < MOST_TOKENS && operand != BAD; n++) {
                if (takes('.')) {
                    operand = readPart(operand);
                } else if (takes('[')) {
                    int index = readEnclosed(']', depth);
                    operand = index == BAD ? BAD : steps.add(INDEX, operand, index);
                } else {
                    return operand;
                }
            }
            return operand;
        }

        private int readFirst(int depth) {
            int name = (int) tokens.numberAt(at);
            switch (tokens.codeAt(at)) {
                case '(':
                    at++;
                    return readEnclosed(')', depth);
                case CONSTANT:
                    return isTooLarge() ? BAD : readConstant();
                case NAME:
                    at++;
                    return steps.add(VARIABLE, 0, name);
                case THIS:
                    at++;
                    return steps.add(VARIABLE, 0, THIS_NAME);
                default:
                    return BAD;
            }
        }

        private int readConstant() {
            at++;
            return steps.addConstant(tokens.kindAt(at - 1), tokens.numberAt(at - 1));
        }

        private int readEnclosed(char closing, int depth) {
            if (open == MOST_OPEN) {
                return BAD;
            }
            open++;
            int inner = readChoice(depth + 1);
            open--;
            return inner != BAD && takes(closing) ? inner : BAD;
        }

        private int readPart(int operand) {
            int name = (int) tokens.numberAt(at);
            if (takes(NAME)) {
                return steps.add(FIELD, operand, name);
            }
            return takes(LENGTH) ? steps.add(LENGTH, operand, 0) : BAD;
        }
    }

    /** Finds the kind of each step of an expression, from those of its operands. */
    private static final class Checker {
        private final Target target;
        private Steps steps;

        Checker(Target itsTarget) {
            target = itsTarget;
        }

        boolean isWellTyped(Steps toCheck) {
            steps = toCheck;
            for (int step = 0; step < steps.size(); step++) {
                int kind = kindOfStep(step);
                if (kind == NO_KIND) {
                    return false;
                }
                steps.setKind(step, kind);
            }
            return true;
        }

        private int kindOfStep(int step) {
            int first = steps.kindAt(steps.firstOf(step));
            int second = steps.secondOf(step);
            switch (steps.codeAt(step)) {
                case CONSTANT:
                    return steps.kindAt(step);
                case VARIABLE:
                    return target.kindOfVariable(second);
                case FIELD:
                    return target.kindOfField(first, second);
                case LENGTH:
                    return Kinds.isArray(first) ? INT : NO_KIND;
                case CAST:
                    return canCast(first, second) ? second : NO_KIND;
                case INSTANCEOF:
                    return booleanIf(target.isThere(second) && target.areRelated(first, second));
                case PLUS:
                case NEGATE:
                case '~':
                    return Kinds.promoted(first);
                // A skip comes behind a condition, so it is where the condition is checked.
                case SKIP:
                case SKIP_IF_FALSE:
                case SKIP_IF_TRUE:
                case '!':
                    return booleanIf(first == BOOLEAN);
                case CHOICE:
                    return kindOfChoice(steps.kindAt(second), steps.kindAt(steps.thirdOf(step)));
                default:
                    return kindOfTwo(steps.codeAt(step), first, steps.kindAt(second));
            }
        }

        private static int booleanIf(boolean good) {
            return good ? BOOLEAN : NO_KIND;
        }

        private boolean canCast(int operand, int kind) {
            return Kinds.isNumeric(operand) && Kinds.isNumeric(kind)
                    || Kinds.areBoolean(operand, kind)
                    || target.isThere(kind) && target.areRelated(operand, kind);
        }

        private int kindOfChoice(int one, int other) {
            if (one == other) {
                return one;
            }
            if (!target.areRelated(one, other)) {
                return Kinds.common(one, other);
            }
            return target.fits(one, other) ? other : one;
        }

        private int kindOfTwo(int code, int left, int right) {
            int common = Kinds.common(left, right);
            boolean booleans = Kinds.areBoolean(left, right);
            switch (code) {
                case INDEX:
                    return kindOfElement(left, right);
                case SHIFT_LEFT:
                case SHIFT_RIGHT:
                case SHIFT_IN_ZEROS:
                    return common == NO_KIND ? NO_KIND : Kinds.promoted(left);
                case '<':
                case AT_MOST:
                case '>':
                case AT_LEAST:
                    return booleanIf(common != NO_KIND);
                case EQUAL:
                case UNEQUAL:
                    return booleanIf(common != NO_KIND || booleans
                            || target.areRelated(left, right));
                case '&':
                case '^':
                case '|':
                    return booleans ? BOOLEAN : common;
                case AND_THEN:
                case OR_ELSE:
                    return booleanIf(booleans);
                default:
                    return common;
            }
        }

        private static int kindOfElement(int array, int index) {
            boolean good = Kinds.isArray(array) && (index == INT || index == CHAR);
            return good ? Kinds.elementOf(array) : NO_KIND;
        }
    }

    /** One of the evaluations: its text, its steps, and how far they were worked out. */
    private static final class Evaluation {
        private final Target target;
        private final Line lineToTarget;
        private final Reader reader;
        private final Checker checker;
        private final Steps steps = new Steps();
        private final char[] text = new char[MOST_CHARACTERS];
        private int length;
        private int state = NONE;
        private int kind = NO_KIND;
        private int exception;
        private int at;
        private int placeNeeded;

        Evaluation(Target itsTarget, Line itsLine, Reader itsReader, Checker itsChecker) {
            target = itsTarget;
            lineToTarget = itsLine;
            reader = itsReader;
            checker = itsChecker;
        }

        int state() {
            return state;
        }

        int kind() {
            return kind;
        }

        int exception() {
            return exception;
        }

        long result() {
            return state == VALUE ? steps.valueAt(steps.size() - 1) : 0;
        }

        void takeText(char[] newText, int newLength) {
            System.arraycopy(newText, 0, text, 0, newLength);
            length = newLength;
        }

        int begin() {
            kind = NO_KIND;
            exception = 0;
            at = 0;
            if (!reader.reads(text, length, steps)) {
                state = ILL_FORMED;
            } else if (!checker.isWellTyped(steps)) {
                state = ILL_TYPED;
            } else {
                kind = steps.kindAt(steps.size() - 1);
                goOn();
            }
            return state;
        }

        /** Works out steps until one waits or fails; with none left the value is there. */
        void goOn() {
            state = VALUE;
            for (int n = 0; n < MOST_STEPS && state == VALUE && at < steps.size(); n++) {
                workOut(at);
            }
        }

        boolean waitsFor(int place) {
            return state == WAITS && placeNeeded == place;
        }

        void stopWaiting(int endState) {
            state = endState;
        }

        private void settle(int step, long v) {
            steps.setValue(step, v);
            at = step + 1;
        }

        private void fail(int why) {
            state = EXCEPTION;
            exception = why;
        }

        /** Whether the piece is known; if not, the step is worked out anew when it is. */
        private boolean has(int place) {
            if (lineToTarget.knows(place)) {
                return true;
            }
            if (lineToTarget.ask(place)) {
                state = WAITS;
                placeNeeded = place;
            } else {
                state = CUT;
            }
            return false;
        }

        private void fetch(int step, int place) {
            if (has(place)) {
                settle(step, target.contentsOf(place));
            }
        }

        private void workOut(int step) {
            long first = steps.valueAt(steps.firstOf(step));
            int second = steps.secondOf(step);
            switch (steps.codeAt(step)) {
                case CONSTANT:
                    at = step + 1;
                    break;
                case VARIABLE:
                    fetch(step, placeOf(0, second));
                    break;
                case FIELD:
                    workOutPart(step, (int) first, second);
                    break;
                case LENGTH:
                    workOutPart(step, (int) first, LENGTH_PART);
                    break;
                case INDEX:
                    workOutElement(step, (int) first, steps.valueAt(second));
                    break;
                case INSTANCEOF:
                    workOutInstanceof(step, (int) first, second);
                    break;
                case CAST:
                    workOutCast(step, first, second);
                    break;
                case CHOICE:
                    settle(step, steps.valueAt(first == 1 ? second : steps.thirdOf(step)));
                    break;
                case SKIP:
                    at = second;
                    break;
                case SKIP_IF_FALSE:
                    at = first == 0 ? second : step + 1;
                    break;
                case SKIP_IF_TRUE:
                    at = first == 1 ? second : step + 1;
                    break;
                default:
                    workOutSign(step, first, steps.valueAt(second));
                    break;
            }
        }

        private void workOutPart(int step, int object, int part) {
            if (object == 0) {
                fail(NULL_USED);
            } else {
                fetch(step, placeOf(object, part));
            }
        }

        private void workOutElement(int step, int array, long index) {
            if (array == 0) {
                fail(NULL_USED);
                return;
            }
            int lengthPlace = placeOf(array, LENGTH_PART);
            if (!has(lengthPlace)) {
                return;
            }
            if (index < 0 || index >= target.contentsOf(lengthPlace)) {
                fail(OUT_OF_ARRAY);
            } else {
                fetch(step, placeOf(array, (int) index));
            }
        }

        private void workOutInstanceof(int step, int object, int kindAsked) {
            if (object == 0 || fitsAnyway(step, kindAsked)) {
                settle(step, object == 0 ? 0 : 1);
            } else if (has(placeOf(object, CLASS_PART))) {
                settle(step, isObjectOf(object, kindAsked) ? 1 : 0);
            }
        }

        private void workOutCast(int step, long operand, int kindAsked) {
            if (!Kinds.isReference(kindAsked)) {
                settle(step, Kinds.narrowed(kindAsked, operand));
            } else if (operand == 0 || fitsAnyway(step, kindAsked)) {
                settle(step, operand);
            } else if (has(placeOf((int) operand, CLASS_PART))) {
                if (isObjectOf((int) operand, kindAsked)) {
                    settle(step, operand);
                } else {
                    fail(CAST_FAILED);
                }
            }
        }

        private boolean fitsAnyway(int step, int kindAsked) {
            return target.fits(steps.kindAt(steps.firstOf(step)), kindAsked);
        }

        private boolean isObjectOf(int object, int kindAsked) {
            return target.fits((int) target.contentsOf(placeOf(object, CLASS_PART)), kindAsked);
        }

        private void workOutSign(int step, long first, long second) {
            int code = steps.codeAt(step);
            int itsKind = steps.kindAt(step);
            if ((code == '/' || code == '%') && second == 0) {
                fail(DIVIDED_BY_ZERO);
                return;
            }
            switch (code) {
                case SHIFT_LEFT:
                case SHIFT_RIGHT:
                case SHIFT_IN_ZEROS:
                    settle(step, shifted(code, itsKind, first, second));
                    break;
                case '~':
                case '!':
                case PLUS:
                case NEGATE:
                    settle(step, Kinds.narrowed(itsKind, changed(code, first)));
                    break;
                case '*':
                case '/':
                case '%':
                case '+':
                case '-':
                case '&':
                case '^':
                case '|':
                    settle(step, Kinds.narrowed(itsKind, combined(code, first, second)));
                    break;
                default:
                    settle(step, holds(code, first, second) ? 1 : 0);
                    break;
            }
        }

        private static long shifted(int code, int kind, long v, long by) {
            if (kind == LONG) {
                int bits = (int) (by & 63);
                if (code == SHIFT_LEFT) {
                    return v << bits;
                }
                return code == SHIFT_RIGHT ? v >> bits : v >>> bits;
            }
            int bits = (int) (by & 31);
            if (code == SHIFT_LEFT) {
                return (int) v << bits;
            }
            return code == SHIFT_RIGHT ? (int) v >> bits : (int) v >>> bits;
        }

        private static long changed(int code, long v) {
            switch (code) {
                case '~':
                    return ~v;
                case '!':
                    return 1 - v;
                case NEGATE:
                    return -v;
                default:
                    return v;
            }
        }

        private static long combined(int code, long left, long right) {
            switch (code) {
                case '*':
                    return left * right;
                case '/':
                    return left / right;
                case '%':
                    return left % right;
                case '+':
                    return left + right;
                case '-':
                    return left - right;
                case '&':
                    return left & right;
                case '^':
                    return left ^ right;
                default:
                    return left | right;
            }
        }

        private static boolean holds(int code, long left, long right) {
            switch (code) {
                case '<':
                    return left < right;
                case AT_MOST:
                    return left <= right;
                case '>':
                    return left > right;
                case AT_LEAST:
                    return left >= right;
                case EQUAL:
                    return left == right;
                case UNEQUAL:
                    return left != right;
                case AND_THEN:
                    return left == 1 && right == 1;
                default:
                    return left == 1 || right == 1;
            }
        }
    }
}
