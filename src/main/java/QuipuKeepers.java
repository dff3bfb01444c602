import java.util.Arrays;

/** Quipu keepers of a province: cords, knots, top cords and the keepers who tie them by orders. */
public final class QuipuKeepers {
    private static final int BYTES_OF_A_FEED = 20;
    private static final int TAPE_BYTES_TOLD = 12;
    private static final int MOST_MONTHS = 120;
    private static final int MOST_MONTHS_OF_ADVICE = 90;
    private static final int MOST_MONTHS_UNTIL_WRONG = 150;

    private Told told = new Told();
    /** Where a list is read, so that a faulty one changes nothing. */
    private Told draft = new Told();
    private final Tape tape = new Tape();
    private final Tokens tokens = new Tokens();
    private final Parser parser = new Parser(tokens, draft.code);
    private final Teacher teacher = new Teacher();
    private final State now = new State(told);
    /** Where months are tried that shall not have been. */
    private final State trial = new State(told);
    private final Calendar calendar = new Calendar();
    private int errorPosition = -1;

    public QuipuKeepers() {
    }

    // ---- the language

    public int feed(int a, int b, int c, int d, int e) throws IllegalStateException {
        if (tape.length() + BYTES_OF_A_FEED > Tape.MOST) {
            throw new IllegalStateException("the tape is full");
        }
        tape.append(a);
        tape.append(b);
        tape.append(c);
        tape.append(d);
        tape.append(e);
        return tape.length();
    }

    public int trim(int n) throws IllegalArgumentException {
        if (n < 0 || n > tape.length()) {
            throw new IllegalArgumentException("the tape has not so many bytes");
        }
        tape.cut(n);
        return n;
    }

    public int teach() {
        tokens.readAll(tape);
        tape.cut(0);
        int fault = parser.firstFault(draft.code);
        int error = fault < 0 ? 0 : 1;
        if (error == 0) {
            fault = teacher.firstFault(tokens, parser.codeAhead, draft);
            error = teacher.error;
        }
        errorPosition = tokens.positionOf(fault);
        if (error == 0) {
            Told former = told;
            told = draft;
            draft = former;
            now.begin(told);
        }
        return error;
    }

    public int errorAt() {
        return errorPosition;
    }

    public int count(int what) throws IndexOutOfBoundsException {
        if (what < 0 || what > TAPE_BYTES_TOLD) {
            throw new IndexOutOfBoundsException("no such count");
        }
        return what == TAPE_BYTES_TOLD ? tape.length() : now.countTells(what);
    }

    // ---- what there is

    public int colour(int colour, int what) throws IndexOutOfBoundsException {
        if (!told.hasColour(colour) || what < 0 || what > 2) {
            throw new IndexOutOfBoundsException("no such colour, or nothing such of it");
        }
        return now.colourTells(colour, what);
    }

    public int cord(int cord, int what) throws IndexOutOfBoundsException {
        if (!told.hasCord(cord) || what < 0 || what > 8) {
            throw new IndexOutOfBoundsException("no such cord, or nothing such of it");
        }
        return now.cordTells(cord, what);
    }

    public int digit(int cord, int place) throws IndexOutOfBoundsException {
        if (!told.hasCord(cord) || place < 0 || place > 3) {
            throw new IndexOutOfBoundsException("no such cord, or no such place");
        }
        return Knots.digitOf(now.value[cord], place);
    }

    public int top(int top, int what) throws IndexOutOfBoundsException {
        if (!told.hasTop(top) || what < 0 || what > 3) {
            throw new IndexOutOfBoundsException("no such top cord, or nothing such of it");
        }
        return now.topTells(top, what);
    }

    public int keeper(int keeper, int what) throws IndexOutOfBoundsException {
        if (!told.hasKeeper(keeper) || what < 0 || what > 3) {
            throw new IndexOutOfBoundsException("no such keeper, or nothing such of this one");
        }
        return now.keeperTells(keeper, what);
    }

    public int apart(int a, int b) throws IndexOutOfBoundsException {
        if (!told.hasCord(a) || !told.hasCord(b)) {
            throw new IndexOutOfBoundsException("no such cord");
        }
        return now.stepsBetween(a, b);
    }

    public int order(int place) throws IndexOutOfBoundsException {
        if (!told.hasCord(place)) {
            throw new IndexOutOfBoundsException("no such place");
        }
        return now.cordInPlace(place);
    }

    public int find(int sum) {
        return now.cordWithSum(sum);
    }

    public int disorder() {
        return now.cordsOutOfOrder();
    }

    // ---- by hand

    public int set(int cord, int value) throws IndexOutOfBoundsException, IllegalArgumentException {
        if (!told.hasCord(cord)) {
            throw new IndexOutOfBoundsException("no such cord");
        }
        if (value < 0 || value > Told.MOST_VALUE) {
            throw new IllegalArgumentException("no value of a cord");
        }
        int before = now.value[cord];
        now.tieInto(cord, value);
        return before;
    }

    public int rest(int keeper) throws IndexOutOfBoundsException {
        if (!told.hasKeeper(keeper)) {
            throw new IndexOutOfBoundsException("no such keeper");
        }
        int before = now.tired[keeper];
        now.tired[keeper] = 0;
        return before;
    }

    public int dye(int cord, int colour) throws IndexOutOfBoundsException {
        if (!told.hasCord(cord) || !told.hasColour(colour)) {
            throw new IndexOutOfBoundsException("no such cord, or no such colour");
        }
        int before = now.colourOf[cord];
        now.colourOf[cord] = colour;
        return before;
    }

    public int hang(int cord, int under) throws IndexOutOfBoundsException, IllegalStateException {
        if (!told.hasCord(cord) || under != Told.MAIN && !told.hasCord(under)) {
            throw new IndexOutOfBoundsException("no such cord");
        }
        if (now.isWithin(under, cord)) {
            throw new IllegalStateException("a cord can't hang from itself");
        }
        if (now.depthOf(under) + now.heightOf(cord) > Told.MOST_DEEP) {
            throw new IllegalStateException("a cord would hang too deep");
        }
        now.hangFrom(cord, under);
        return now.depthOf(cord);
    }

    // ---- months

    public int pass(int months) throws IllegalArgumentException {
        if (months < 1 || months > MOST_MONTHS) {
            throw new IllegalArgumentException("no such number of months");
        }
        int before = now.carried;
        calendar.letPass(now, months);
        return now.carried - before;
    }

    // ---- what would be

    public int until(int top) throws IndexOutOfBoundsException {
        if (!told.hasTop(top)) {
            throw new IndexOutOfBoundsException("no such top cord");
        }
        trial.copyFrom(now);
        for (int behind = 0; behind < MOST_MONTHS_UNTIL_WRONG; behind++) {
            if (trial.isWrong(top)) {
                return behind;
            }
            calendar.letPass(trial, 1);
        }
        return trial.isWrong(top) ? MOST_MONTHS_UNTIL_WRONG : -1;
    }

    public int foresee(int months, int what) throws IllegalArgumentException, IndexOutOfBoundsException {
        if (months < 1 || months > MOST_MONTHS) {
            throw new IllegalArgumentException("no such number of months");
        }
        if (what < 6 || what > 11) {
            throw new IndexOutOfBoundsException("no such count");
        }
        trial.copyFrom(now);
        calendar.letPass(trial, months);
        return trial.countTells(what);
    }

    public int advise(int months) throws IllegalArgumentException {
        if (months < 1 || months > MOST_MONTHS_OF_ADVICE) {
            throw new IllegalArgumentException("no such number of months");
        }
        int best = -1;
        int fewest = wrongBehind(months, -1);
        for (int keeper = 0; keeper < told.keepers; keeper++) {
            int wrong = wrongBehind(months, keeper);
            if (wrong < fewest) {
                fewest = wrong;
                best = keeper;
            }
        }
        return best;
    }

    public double mean() {
        // Each cord counts in the sum of just one that hangs from the main cord.
        int hanging = now.cordsUnder(Told.MAIN);
        return hanging == 0 ? 0.0 : (double) now.valuesOfAll() / hanging;
    }

    public long digest() {
        long d = 877;
        for (int what = 0; what < TAPE_BYTES_TOLD; what++) {
            d = d * 31 + now.countTells(what);
        }
        d = d * 31 + tape.length();
        for (int n = 0; n < told.colours * 3; n++) {
            d = d * 31 + now.colourTells(n / 3, n % 3);
        }
        for (int n = 0; n < told.cords * 9; n++) {
            d = d * 31 + now.cordTells(n / 9, n % 9);
        }
        for (int n = 0; n < told.tops * 4; n++) {
            d = d * 31 + now.topTells(n / 4, n % 4);
        }
        for (int n = 0; n < told.keepers * 4; n++) {
            d = d * 31 + now.keeperTells(n / 4, n % 4);
        }
        return d * 31 + now.cordsOutOfOrder();
    }

    /** Returns how many top cords are wrong behind the months, if the keeper (none, if -1) rests now. */
    private int wrongBehind(int howMany, int resting) {
        trial.copyFrom(now);
        if (told.hasKeeper(resting)) {
            trial.tired[resting] = 0;
        }
        calendar.letPass(trial, howMany);
        return trial.wrongTops();
    }

    /** The bytes that are fed, until they are read as a list. */
    private static final class Tape {
        static final int MOST = 2000;

        private final byte[] bytes = new byte[MOST];
        private int size = 0;

        int length() {
            return size;
        }

        /** Appends the four bytes of a number, the highest one first. */
        void append(int number) {
            for (int shift = 24; shift >= 0 && size < MOST; shift -= 8) {
                bytes[size] = (byte) (number >>> shift);
                size++;
            }
        }

        void cut(int length) {
            size = length;
        }

        /** Returns the byte, 0 to 255, or -1 beyond the end. */
        int signAt(int at) {
            return at < 0 || at >= size ? -1 : bytes[at] & 255;
        }

        /** Returns the position of the first byte from there on that is no blank and no line end. */
        int behindBlanks(int from) {
            int at = from;
            while (at < size && (signAt(at) == ' ' || signAt(at) == '\n')) {
                at++;
            }
            return at;
        }
    }

    /** The kinds of tokens. Those that make up sums and tests are the steps of the code as well. */
    private static final class Kind {
        /** The keywords in the order of their numbers, a blank behind each. */
        static final String KEYWORDS = "colour rank cord of under main count top over keeper care tie by as tally when month value sum knots record tired wrong not and or min max ";
        static final int KEYWORDS_IN_ALL = 28;
        static final int COLOUR = 0;
        static final int RANK = 1;
        static final int CORD = 2;
        static final int OF = 3;
        static final int UNDER = 4;
        static final int MAIN = 5;
        static final int COUNT = 6;
        static final int TOP = 7;
        static final int OVER = 8;
        static final int KEEPER = 9;
        static final int CARE = 10;
        static final int TIE = 11;
        static final int BY = 12;
        static final int AS = 13;
        static final int TALLY = 14;
        static final int WHEN = 15;
        static final int MONTH = 16;
        static final int VALUE = 17;
        static final int SUM = 18;
        static final int KNOTS = 19;
        static final int RECORD = 20;
        static final int TIRED = 21;
        static final int WRONG = 22;
        static final int NOT = 23;
        static final int AND = 24;
        static final int OR = 25;
        static final int MIN = 26;
        static final int MAX = 27;
        static final int NAME = 28;
        static final int NUMBER = 29;

        /** The symbols of one byte in the order of their numbers, the first of which is that of (. */
        static final String SYMBOLS = "()[];,+-*/<>=";
        static final int ROUND_OPEN = 30;
        static final int ROUND_CLOSE = 31;
        static final int SQUARE_OPEN = 32;
        static final int SQUARE_CLOSE = 33;
        static final int SEMICOLON = 34;
        static final int COMMA = 35;
        static final int PLUS = 36;
        static final int MINUS = 37;
        static final int TIMES = 38;
        static final int DIVIDE = 39;
        static final int LESS = 40;
        static final int GREATER = 41;
        static final int EQUAL = 42;
        static final int AT_MOST = 43;
        static final int AT_LEAST = 44;

        static final int END = 45;
        static final int BAD = 46;
        /** No token, but a step of the code: the - in front of a value. */
        static final int NEGATE = 47;
        static final int NONE = 48;
    }

    /** The tape as tokens, up to its end or the first one that is none. */
    private static final class Tokens {
        static final int MOST = 400;
        private static final int LONGEST_WORD = 10;
        private static final int LONGEST_NUMBER = 6;
        private static final int SIGNS_OF_WORDS = 37;

        final int[] kind = new int[MOST + 1];
        /** What a number is, or a word as a number of its own. */
        final long[] content = new long[MOST + 1];
        private final int[] position = new int[MOST + 1];
        private final long[] keyword = new long[Kind.KEYWORDS_IN_ALL];
        private int size = 0;
        /** The content of the token just read, and the position behind it. */
        private long found = 0;
        private int behind = 0;

        Tokens() {
            int number = 0;
            long word = 0;
            for (int at = 0; at < Kind.KEYWORDS.length(); at++) {
                char sign = Kind.KEYWORDS.charAt(at);
                if (sign != ' ') {
                    word = word * SIGNS_OF_WORDS + numberOfSign(sign);
                } else if (number < keyword.length) {
                    keyword[number] = word;
                    word = 0;
                    number++;
                }
            }
        }

        /** Reads all tokens; the last one is the end or the first that is bad. */
        void readAll(Tape tape) {
            size = 0;
            behind = 0;
            boolean more = true;
            for (int n = 0; n <= MOST && more; n++) {
                int from = tape.behindBlanks(behind);
                int read = kindOfNext(tape, from);
                if (n == MOST && read != Kind.END) {
                    read = Kind.BAD;
                }
                kind[n] = read;
                content[n] = found;
                position[n] = from;
                size = n + 1;
                more = read != Kind.END && read != Kind.BAD;
            }
        }

        int length() {
            return size;
        }

        int numberOf(int token) {
            return token < 0 || token >= size ? 0 : (int) content[token];
        }

        int kindOf(int token) {
            return token < 0 || token >= size ? Kind.BAD : kind[token];
        }

        /** Returns the position of the token's first byte, or -1 for none. */
        int positionOf(int token) {
            return token < 0 || token >= size ? -1 : position[token];
        }

        private int kindOfNext(Tape tape, int from) {
            found = 0;
            behind = from;
            int sign = tape.signAt(from);
            if (sign < 0) {
                return Kind.END;
            }
            if (isLetter(sign)) {
                return kindOfWord(tape, from);
            }
            return isDigit(sign) ? kindOfNumber(tape, from) : kindOfSymbol(tape, from, sign);
        }

        private int kindOfWord(Tape tape, int from) {
            int length = 0;
            int sign = tape.signAt(from);
            while (length < Tape.MOST && (isLetter(sign) || isDigit(sign))) {
                found = found * SIGNS_OF_WORDS + numberOfSign(sign);
                length++;
                sign = tape.signAt(from + length);
            }
            behind = from + length;
            if (length > LONGEST_WORD) {
                return Kind.BAD;
            }
            for (int number = 0; number < keyword.length; number++) {
                if (keyword[number] == found) {
                    return number;
                }
            }
            return Kind.NAME;
        }

        private int kindOfNumber(Tape tape, int from) {
            int length = 0;
            int sign = tape.signAt(from);
            while (length < Tape.MOST && isDigit(sign)) {
                found = found * 10 + sign - '0';
                length++;
                sign = tape.signAt(from + length);
            }
            behind = from + length;
            return length > LONGEST_NUMBER ? Kind.BAD : Kind.NUMBER;
        }

        private int kindOfSymbol(Tape tape, int from, int sign) {
            if ((sign == '<' || sign == '>') && tape.signAt(from + 1) == '=') {
                behind = from + 2;
                return sign == '<' ? Kind.AT_MOST : Kind.AT_LEAST;
            }
            behind = from + 1;
            int place = Kind.SYMBOLS.indexOf((char) sign);
            return place < 0 ? Kind.BAD : Kind.ROUND_OPEN + place;
        }

        private static boolean isLetter(int sign) {
            return sign >= 'a' && sign <= 'z';
        }

        private static boolean isDigit(int sign) {
            return sign >= '0' && sign <= '9';
        }

        /** Returns 1 to 36, so that no two words of up to ten signs are the same number. */
        private static int numberOfSign(int sign) {
            return isLetter(sign) ? sign - 'a' + 1 : sign - '0' + 27;
        }
    }

    /** The sums and tests of all orders, each value ahead of the sign that takes it. */
    private static final class Code {
        final int[] step = new int[Tokens.MOST];
        /** A number, or whose value it is: the name's token at first, what it names once it is known. */
        final int[] operand = new int[Tokens.MOST];
        private int size = 0;

        int length() {
            return size;
        }

        void clear() {
            size = 0;
        }

        /** Says if there was room; as no token makes more than one step, there always is. */
        boolean append(int newStep, int newOperand) {
            if (size >= Tokens.MOST) {
                return false;
            }
            step[size] = newStep;
            operand[size] = newOperand;
            size++;
            return true;
        }
    }

    /** Looks for error 1, and makes the code of the orders on the way. */
    private static final class Parser {
        private static final int MOST_DEEP = 8;

        /** How much code there was ahead of each token. */
        final int[] codeAhead = new int[Tokens.MOST + 1];
        private final Tokens tokens;
        private Code code;
        /** The kind of the token that comes next, and its number. */
        private int here = Kind.BAD;
        private int next = 0;

        Parser(Tokens tokens, Code code) {
            this.tokens = tokens;
            this.code = code;
        }

        /** Returns the number of the first token with which no list can go on, -1 if there is none. */
        int firstFault(Code into) {
            code = into;
            code.clear();
            next = 0;
            here = tokens.kindOf(0);
            boolean good = true;
            for (int n = 0; n < Tokens.MOST && good && here != Kind.END; n++) {
                good = line();
            }
            return good && here == Kind.END ? -1 : next;
        }

        private boolean line() {
            switch (here) {
                case Kind.COLOUR:
                    return take(Kind.COLOUR) && take(Kind.NAME) && take(Kind.RANK) && take(Kind.NUMBER)
                            && take(Kind.SEMICOLON);
                case Kind.CORD:
                    return take(Kind.CORD) && take(Kind.NAME) && take(Kind.OF) && take(Kind.NAME) && take(Kind.UNDER)
                            && (take(Kind.MAIN) || take(Kind.NAME))
                            && (!take(Kind.COUNT) || take(Kind.NUMBER)) && take(Kind.SEMICOLON);
                case Kind.TOP:
                    return take(Kind.TOP) && take(Kind.NAME) && take(Kind.OVER) && take(Kind.NAME) && take(Kind.NAME)
                            && otherNames() && take(Kind.SEMICOLON);
                case Kind.KEEPER:
                    return take(Kind.KEEPER) && take(Kind.NAME) && take(Kind.CARE) && take(Kind.NUMBER)
                            && take(Kind.SEMICOLON);
                case Kind.TIE:
                    return take(Kind.TIE) && take(Kind.NAME) && take(Kind.BY) && take(Kind.NAME) && take(Kind.AS)
                            && sumAt(0) && (!take(Kind.WHEN) || testAt(0)) && take(Kind.SEMICOLON);
                case Kind.TALLY:
                    return take(Kind.TALLY) && take(Kind.NAME) && take(Kind.BY) && take(Kind.NAME)
                            && (!take(Kind.WHEN) || testAt(0)) && take(Kind.SEMICOLON);
                default:
                    return false;
            }
        }

        private boolean otherNames() {
            boolean more = true;
            for (int n = 0; n < Tokens.MOST && more; n++) {
                more = take(Kind.NAME);
            }
            return true;
        }

        /** Singles joined by and, and those joined by or. */
        private boolean testAt(int depth) {
            boolean good = singleAt(depth);
            boolean orWaits = false;
            for (int n = 0; n < Tokens.MOST && good && (here == Kind.AND || here == Kind.OR); n++) {
                int sign = here;
                if (sign == Kind.OR && orWaits) {
                    code.append(Kind.OR, 0);
                }
                orWaits = orWaits || sign == Kind.OR;
                good = take(sign) && singleAt(depth);
                if (sign == Kind.AND) {
                    code.append(Kind.AND, 0);
                }
            }
            if (orWaits) {
                code.append(Kind.OR, 0);
            }
            return good;
        }

        private boolean singleAt(int depth) {
            if (depth > MOST_DEEP) {
                return false;
            }
            switch (here) {
                case Kind.NOT:
                    return depth < MOST_DEEP && take(Kind.NOT) && singleAt(depth + 1) && code.append(Kind.NOT, 0);
                case Kind.SQUARE_OPEN:
                    return depth < MOST_DEEP && take(Kind.SQUARE_OPEN) && testAt(depth + 1)
                            && take(Kind.SQUARE_CLOSE);
                case Kind.WRONG:
                    return take(Kind.WRONG) && take(Kind.NAME) && code.append(Kind.WRONG, next - 1);
                default:
                    if (!sumAt(depth)) {
                        return false;
                    }
                    int sign = here;
                    return sign >= Kind.LESS && sign <= Kind.AT_LEAST && take(sign) && sumAt(depth)
                            && code.append(sign, 0);
            }
        }

        /** Values joined by * and /, and those joined by + and -. */
        private boolean sumAt(int depth) {
            boolean good = valueAt(depth);
            int waiting = Kind.NONE;
            for (int n = 0; n < Tokens.MOST && good && here >= Kind.PLUS && here <= Kind.DIVIDE; n++) {
                int sign = here;
                boolean closer = sign == Kind.TIMES || sign == Kind.DIVIDE;
                if (!closer && waiting != Kind.NONE) {
                    code.append(waiting, 0);
                }
                waiting = closer ? waiting : sign;
                good = take(sign) && valueAt(depth);
                if (closer) {
                    code.append(sign, 0);
                }
            }
            if (waiting != Kind.NONE) {
                code.append(waiting, 0);
            }
            return good;
        }

        private boolean valueAt(int depth) {
            if (depth > MOST_DEEP) {
                return false;
            }
            int kind = here;
            switch (kind) {
                case Kind.NUMBER:
                    return take(Kind.NUMBER) && code.append(Kind.NUMBER, tokens.numberOf(next - 1));
                case Kind.MONTH:
                    return take(Kind.MONTH) && code.append(Kind.MONTH, 0);
                case Kind.VALUE:
                case Kind.SUM:
                case Kind.KNOTS:
                case Kind.RECORD:
                case Kind.TIRED:
                    return take(kind) && take(Kind.NAME) && code.append(kind, next - 1);
                case Kind.MINUS:
                    return depth < MOST_DEEP && take(Kind.MINUS) && valueAt(depth + 1) && code.append(Kind.NEGATE, 0);
                case Kind.ROUND_OPEN:
                    return depth < MOST_DEEP && take(Kind.ROUND_OPEN) && sumAt(depth + 1) && take(Kind.ROUND_CLOSE);
                case Kind.MIN:
                case Kind.MAX:
                    return take(kind) && depth < MOST_DEEP && take(Kind.ROUND_OPEN) && sumAt(depth + 1)
                            && take(Kind.COMMA) && sumAt(depth + 1) && take(Kind.ROUND_CLOSE) && code.append(kind, 0);
                default:
                    return false;
            }
        }

        private boolean take(int kind) {
            if (here != kind || next >= Tokens.MOST) {
                return false;
            }
            codeAhead[next] = code.size;
            next++;
            here = tokens.kind[next];
            return true;
        }
    }

    /** What a list tells: what there is at first, and the orders. */
    private static final class Told {
        static final int MOST_COLOURS = 6;
        static final int MOST_CORDS = 16;
        static final int MOST_TOPS = 6;
        static final int MOST_CORDS_OF_A_TOP = 8;
        static final int MOST_KEEPERS = 5;
        static final int MOST_ORDERS = 20;
        static final int MOST_DEEP = 4;
        static final int MOST_VALUE = 9999;
        /** Where a cord hangs from the main cord. */
        static final int MAIN = -1;

        int colours = 0;
        int cords = 0;
        int tops = 0;
        int keepers = 0;
        int orders = 0;
        final int[] rank = new int[MOST_COLOURS];
        final int[] colourOf = new int[MOST_CORDS];
        final int[] under = new int[MOST_CORDS];
        final int[] value = new int[MOST_CORDS];
        final int[] topSize = new int[MOST_TOPS];
        final int[][] topCords = new int[MOST_TOPS][MOST_CORDS_OF_A_TOP];
        final int[] care = new int[MOST_KEEPERS];
        final boolean[] isTie = new boolean[MOST_ORDERS];
        /** The cord of a tie, the top cord of a tally. */
        final int[] target = new int[MOST_ORDERS];
        final int[] keeperOf = new int[MOST_ORDERS];
        /** An order's sum stands behind the order before it, its test (if there is one) from here to its end. */
        final int[] testFrom = new int[MOST_ORDERS];
        final int[] codeEnd = new int[MOST_ORDERS];
        final Code code = new Code();

        /** Forgets all but the code. */
        void clear() {
            colours = 0;
            cords = 0;
            tops = 0;
            keepers = 0;
            orders = 0;
        }

        boolean hasColour(int colour) {
            return colour >= 0 && colour < colours && colour < MOST_COLOURS;
        }

        boolean hasCord(int cord) {
            return cord >= 0 && cord < cords && cord < MOST_CORDS;
        }

        boolean hasTop(int top) {
            return top >= 0 && top < tops && top < MOST_TOPS;
        }

        boolean hasKeeper(int keeper) {
            return keeper >= 0 && keeper < keepers && keeper < MOST_KEEPERS;
        }

        boolean isOver(int top, int cord) {
            for (int n = 0; n < topSize[top]; n++) {
                if (topCords[top][n] == cord) {
                    return true;
                }
            }
            return false;
        }
    }

    /** Looks for errors 2 to 5 in a list without error 1, and tells what it says. */
    private static final class Teacher {
        private static final int TOLD_AHEAD = 2;
        private static final int NOT_TOLD = 3;
        private static final int TOO_MANY = 4;
        private static final int OUT_OF_RANGE = 5;
        private static final int MOST_RANK = 99;
        private static final int MOST_CARE = 9;
        private static final int NOT_YET = -1;

        int error = 0;
        private final long[] colourNames = new long[Told.MOST_COLOURS];
        private final long[] cordNames = new long[Told.MOST_CORDS];
        private final long[] topNames = new long[Told.MOST_TOPS];
        private final long[] keeperNames = new long[Told.MOST_KEEPERS];
        private final int[] depth = new int[Told.MOST_CORDS];
        /** What the name of each token names. */
        private final int[] meant = new int[Tokens.MOST + 1];
        /** The keyword with which the line begins, and the latest one. */
        private int line = Kind.NONE;
        private int keyword = Kind.NONE;

        /** Returns the number of the first token at fault, -1 if there is none. */
        int firstFault(Tokens tokens, int[] codeAhead, Told draft) {
            draft.clear();
            error = 0;
            for (int t = 0; t < tokens.length() && t < Tokens.MOST; t++) {
                int kind = tokens.kind[t];
                if (kind == Kind.NAME) {
                    meant[t] = toldAhead(draft, tokens.content[t]);
                    error = errorOfName(draft, meant[t], tokens.content[t]);
                } else if (kind == Kind.NUMBER) {
                    error = errorOfNumber(draft, tokens.numberOf(t));
                } else if (kind == Kind.SEMICOLON) {
                    endLine(draft, codeAhead[t]);
                } else if (kind < Kind.KEYWORDS_IN_ALL) {
                    error = errorOfKeyword(draft, kind, codeAhead[t]);
                }
                if (error != 0) {
                    return t;
                }
            }
            tellCode(draft.code);
            return -1;
        }

        private int errorOfKeyword(Told draft, int kind, int codeAhead) {
            keyword = kind;
            boolean begins = kind == Kind.COLOUR || kind == Kind.CORD || kind == Kind.TOP || kind == Kind.KEEPER
                    || kind == Kind.TIE || kind == Kind.TALLY;
            if (begins) {
                line = kind;
            }
            int order = draft.orders;
            if (kind == Kind.TIE || kind == Kind.TALLY) {
                if (order >= Told.MOST_ORDERS) {
                    return TOO_MANY;
                }
                draft.isTie[order] = kind == Kind.TIE;
                draft.testFrom[order] = NOT_YET;
            }
            if (kind == Kind.WHEN && order < Told.MOST_ORDERS) {
                draft.testFrom[order] = codeAhead;
            }
            return 0;
        }

        private int errorOfNumber(Told draft, int number) {
            switch (keyword) {
                case Kind.RANK:
                    if (number > MOST_RANK) {
                        return OUT_OF_RANGE;
                    }
                    if (draft.colours < Told.MOST_COLOURS) {
                        draft.rank[draft.colours] = number;
                    }
                    return 0;
                case Kind.COUNT:
                    if (number > Told.MOST_VALUE) {
                        return OUT_OF_RANGE;
                    }
                    if (draft.cords < Told.MOST_CORDS) {
                        draft.value[draft.cords] = number;
                    }
                    return 0;
                case Kind.CARE:
                    if (number < 1 || number > MOST_CARE) {
                        return OUT_OF_RANGE;
                    }
                    if (draft.keepers < Told.MOST_KEEPERS) {
                        draft.care[draft.keepers] = number;
                    }
                    return 0;
                default:
                    return 0;
            }
        }

        /** Returns the number of what has the name, of the sort that the latest keyword wants; -1 for none. */
        private int toldAhead(Told draft, long name) {
            switch (keyword) {
                case Kind.COLOUR:
                case Kind.OF:
                    return placeOf(name, colourNames, draft.colours);
                case Kind.TOP:
                case Kind.TALLY:
                case Kind.RECORD:
                case Kind.WRONG:
                    return placeOf(name, topNames, draft.tops);
                case Kind.KEEPER:
                case Kind.BY:
                case Kind.TIRED:
                    return placeOf(name, keeperNames, draft.keepers);
                default:
                    return placeOf(name, cordNames, draft.cords);
            }
        }

        private static int placeOf(long name, long[] names, int size) {
            for (int place = 0; place < size && place < names.length; place++) {
                if (names[place] == name) {
                    return place;
                }
            }
            return -1;
        }

        private int errorOfName(Told draft, int place, long name) {
            switch (keyword) {
                case Kind.COLOUR:
                    return errorOfNewName(place, name, colourNames, draft.colours);
                case Kind.CORD:
                    return errorOfNewCord(draft, place, name);
                case Kind.TOP:
                    if (draft.tops < Told.MOST_TOPS) {
                        draft.topSize[draft.tops] = 0;
                    }
                    return errorOfNewName(place, name, topNames, draft.tops);
                case Kind.KEEPER:
                    return errorOfNewName(place, name, keeperNames, draft.keepers);
                default:
                    return place < 0 ? NOT_TOLD : errorOfUse(draft, place);
            }
        }

        private static int errorOfNewName(int place, long name, long[] names, int size) {
            if (place >= 0) {
                return TOLD_AHEAD;
            }
            if (size < 0 || size >= names.length) {
                return TOO_MANY;
            }
            names[size] = name;
            return 0;
        }

        private int errorOfNewCord(Told draft, int place, long name) {
            int cord = draft.cords;
            if (cord < Told.MOST_CORDS) {
                draft.under[cord] = Told.MAIN;
                draft.value[cord] = 0;
                depth[cord] = 1;
            }
            return errorOfNewName(place, name, cordNames, cord);
        }

        /** Puts a name that was told ahead where the latest keyword wants it. */
        private int errorOfUse(Told draft, int place) {
            int cord = draft.cords;
            int order = draft.orders;
            switch (keyword) {
                case Kind.OF:
                    if (cord < Told.MOST_CORDS) {
                        draft.colourOf[cord] = place;
                    }
                    return 0;
                case Kind.UNDER:
                    return errorOfHanging(draft, place);
                case Kind.OVER:
                    return errorOfTopCord(draft, place);
                case Kind.TIE:
                case Kind.TALLY:
                    if (order < Told.MOST_ORDERS) {
                        draft.target[order] = place;
                    }
                    return 0;
                case Kind.BY:
                    if (order < Told.MOST_ORDERS) {
                        draft.keeperOf[order] = place;
                    }
                    return 0;
                default:
                    return 0;
            }
        }

        private int errorOfHanging(Told draft, int under) {
            int cord = draft.cords;
            if (!draft.hasCord(under) || cord >= Told.MOST_CORDS || depth[under] >= Told.MOST_DEEP) {
                return OUT_OF_RANGE;
            }
            draft.under[cord] = under;
            depth[cord] = depth[under] + 1;
            return 0;
        }

        private static int errorOfTopCord(Told draft, int cord) {
            int top = draft.tops;
            if (top >= Told.MOST_TOPS || draft.topSize[top] >= Told.MOST_CORDS_OF_A_TOP) {
                return TOO_MANY;
            }
            if (draft.isOver(top, cord)) {
                return OUT_OF_RANGE;
            }
            draft.topCords[top][draft.topSize[top]] = cord;
            draft.topSize[top]++;
            return 0;
        }

        /** Only behind its line is something told. */
        private void endLine(Told draft, int codeAhead) {
            switch (line) {
                case Kind.COLOUR:
                    draft.colours++;
                    break;
                case Kind.CORD:
                    draft.cords++;
                    break;
                case Kind.TOP:
                    draft.tops++;
                    break;
                case Kind.KEEPER:
                    draft.keepers++;
                    break;
                default:
                    endOrder(draft, codeAhead);
                    break;
            }
        }

        private static void endOrder(Told draft, int codeAhead) {
            int order = draft.orders;
            if (order < Told.MOST_ORDERS) {
                draft.codeEnd[order] = codeAhead;
                if (draft.testFrom[order] == NOT_YET) {
                    draft.testFrom[order] = codeAhead;
                }
                draft.orders++;
            }
        }

        /** Puts what is named into the code, in the place of the names' tokens. */
        private void tellCode(Code code) {
            for (int n = 0; n < code.length() && n < Tokens.MOST; n++) {
                int step = code.step[n];
                int token = code.operand[n];
                if (step >= Kind.VALUE && step <= Kind.WRONG && token >= 0 && token < meant.length) {
                    code.operand[n] = meant[token];
                }
            }
        }
    }

    /** What knots a number has. */
    private static final class Knots {
        private static final int MOST_PLACES = 10;

        /** Returns how many knots: a single one for each 1 of a digit, but one for all the last digit. */
        static int knotsOf(int number) {
            return (number % 10 == 0 ? 0 : 1) + singleKnotsOf(number);
        }

        /** Returns the turns of all knots; a figure eight, which is a last digit of 1, has 2. */
        static int turnsOf(int number) {
            int last = number % 10;
            return (last == 1 ? 2 : last) + singleKnotsOf(number);
        }

        /** Returns the digit of a place, 0 for the last one. */
        static int digitOf(int number, int place) {
            int rest = number;
            for (int n = 0; n < place && n < MOST_PLACES; n++) {
                rest /= 10;
            }
            return rest % 10;
        }

        /** Returns what is left of a number, if its first digit is 1 less, or if it loses its only one. */
        static int eaten(int number) {
            if (number < 10) {
                return 0;
            }
            int first = 10;
            for (int n = 2; n < MOST_PLACES && first <= number / 10; n++) {
                first *= 10;
            }
            return number - first;
        }

        private static int singleKnotsOf(int number) {
            int knots = 0;
            int rest = number / 10;
            for (int n = 1; n < MOST_PLACES; n++) {
                knots += rest % 10;
                rest /= 10;
            }
            return knots;
        }
    }

    /** The cords, records and keepers as they are at some time. */
    private static final class State {
        private static final int TIRED_TIMES_CARE = 5;
        private static final int KNOTS_THAT_TIRE = 4;
        private static final int MONTHS_OF_MOTHS = 6;

        /** What was told, which is not changed here. */
        Told told;
        int month = 0;
        int carried = 0;
        int eaten = 0;
        final int[] colourOf = new int[Told.MOST_CORDS];
        final int[] under = new int[Told.MOST_CORDS];
        final int[] value = new int[Told.MOST_CORDS];
        /** Kept with each value, since orders ask for sums far more often than values change. */
        final int[] sum = new int[Told.MOST_CORDS];
        final int[] record = new int[Told.MOST_TOPS];
        final int[] tired = new int[Told.MOST_KEEPERS];
        final int[] carriedBy = new int[Told.MOST_KEEPERS];

        State(Told told) {
            this.told = told;
        }

        /** Begins anew with what is told, but for the month. */
        void begin(Told list) {
            told = list;
            carried = 0;
            eaten = 0;
            Arrays.fill(value, 0);
            Arrays.fill(sum, 0);
            Arrays.fill(record, 0);
            Arrays.fill(tired, 0);
            Arrays.fill(carriedBy, 0);
            for (int cord = 0; cord < list.cords; cord++) {
                colourOf[cord] = list.colourOf[cord];
                under[cord] = list.under[cord];
                tieInto(cord, list.value[cord]);
            }
        }

        void copyFrom(State other) {
            told = other.told;
            month = other.month;
            carried = other.carried;
            eaten = other.eaten;
            System.arraycopy(other.colourOf, 0, colourOf, 0, Told.MOST_CORDS);
            System.arraycopy(other.under, 0, under, 0, Told.MOST_CORDS);
            System.arraycopy(other.value, 0, value, 0, Told.MOST_CORDS);
            System.arraycopy(other.sum, 0, sum, 0, Told.MOST_CORDS);
            System.arraycopy(other.record, 0, record, 0, Told.MOST_TOPS);
            System.arraycopy(other.tired, 0, tired, 0, Told.MOST_KEEPERS);
            System.arraycopy(other.carriedBy, 0, carriedBy, 0, Told.MOST_KEEPERS);
        }

        /** Ties a value into a cord, which the sums of all above it tell. */
        void tieInto(int cord, int newValue) {
            int more = newValue - value[cord];
            value[cord] = newValue;
            addAbove(cord, more);
        }

        private void addAbove(int cord, int more) {
            int at = cord;
            for (int n = 0; n < Told.MOST_DEEP && told.hasCord(at); n++) {
                sum[at] += more;
                at = under[at];
            }
        }

        // ---- how cords hang

        /** Returns how deep a cord is; the main cord is 0 deep. */
        int depthOf(int cord) {
            int depth = 0;
            int at = cord;
            for (int n = 0; n < Told.MOST_DEEP && told.hasCord(at); n++) {
                depth++;
                at = under[at];
            }
            return depth;
        }

        /** Says if a cord is the other one or hangs from it, also by way of others. */
        boolean isWithin(int cord, int other) {
            int at = cord;
            for (int n = 0; n < Told.MOST_DEEP && told.hasCord(at); n++) {
                if (at == other) {
                    return true;
                }
                at = under[at];
            }
            return false;
        }

        /** Returns how many cords are below each other from this one on, itself among them. */
        int heightOf(int cord) {
            int deepest = 0;
            for (int other = 0; other < told.cords; other++) {
                if (isWithin(other, cord)) {
                    deepest = Math.max(deepest, depthOf(other));
                }
            }
            return deepest - depthOf(cord) + 1;
        }

        void hangFrom(int cord, int other) {
            addAbove(under[cord], -sum[cord]);
            under[cord] = other;
            addAbove(other, sum[cord]);
        }

        int stepsBetween(int a, int b) {
            int from = a;
            int to = b;
            int steps = 0;
            for (int n = 0; n < 2 * Told.MOST_DEEP && from != to; n++) {
                if (depthOf(from) < depthOf(to)) {
                    to = above(to);
                } else {
                    from = above(from);
                }
                steps++;
            }
            return steps;
        }

        private int above(int cord) {
            return told.hasCord(cord) ? under[cord] : Told.MAIN;
        }

        int cordsUnder(int above) {
            int cords = 0;
            for (int cord = 0; cord < told.cords; cord++) {
                cords += under[cord] == above ? 1 : 0;
            }
            return cords;
        }

        // ---- how cords stand by colours and sums

        int cordInPlace(int place) {
            for (int cord = 0; cord < told.cords; cord++) {
                int ahead = 0;
                for (int other = 0; other < told.cords; other++) {
                    ahead += standsAhead(other, cord) ? 1 : 0;
                }
                if (ahead == place) {
                    return cord;
                }
            }
            return -1;
        }

        private boolean standsAhead(int cord, int other) {
            int rank = rankOf(cord);
            int otherRank = rankOf(other);
            if (rank != otherRank) {
                return rank < otherRank;
            }
            return sum[cord] != sum[other] ? sum[cord] > sum[other] : cord < other;
        }

        private int rankOf(int cord) {
            int colour = colourOf[cord];
            return told.hasColour(colour) ? told.rank[colour] : 0;
        }

        int cordWithSum(int wanted) {
            for (int cord = 0; cord < told.cords; cord++) {
                if (sum[cord] == wanted) {
                    return cord;
                }
            }
            return -1;
        }

        int cordsOutOfOrder() {
            int cords = 0;
            for (int cord = 0; cord < told.cords; cord++) {
                int other = neighbourAhead(cord);
                boolean out = other >= 0 && rankOf(cord) < rankOf(other);
                cords += out ? 1 : 0;
            }
            return cords;
        }

        /** Returns the nearest cord ahead by numbers that hangs from the same one, -1 for none. */
        private int neighbourAhead(int cord) {
            for (int other = cord - 1; other >= 0; other--) {
                if (under[other] == under[cord]) {
                    return other;
                }
            }
            return -1;
        }

        // ---- top cords and keepers

        /** Returns the sums of the cords of a top cord, added. */
        int countedBelow(int top) {
            int counted = 0;
            for (int n = 0; n < told.topSize[top]; n++) {
                int cord = told.topCords[top][n];
                counted += told.hasCord(cord) ? sum[cord] : 0;
            }
            return counted;
        }

        boolean isWrong(int top) {
            return record[top] != countedBelow(top);
        }

        int wrongTops() {
            int wrong = 0;
            for (int top = 0; top < told.tops; top++) {
                wrong += isWrong(top) ? 1 : 0;
            }
            return wrong;
        }

        private boolean isTooTired(int keeper) {
            return tired[keeper] > TIRED_TIMES_CARE * told.care[keeper];
        }

        // ---- months

        /** Carries out an order; a tie ties the number, a tally what is counted. */
        void carryOut(int order, int number) {
            int keeper = told.keeperOf[order];
            int target = told.target[order];
            boolean isTie = told.isTie[order];
            boolean isThere = isTie ? told.hasCord(target) : told.hasTop(target);
            if (!isThere || !told.hasKeeper(keeper)) {
                return;
            }
            int tied = isTie ? Math.max(0, Math.min(Told.MOST_VALUE, number)) : countedBelow(target);
            if (isTooTired(keeper)) {
                tied -= tied % 10;
            }
            if (isTie) {
                tieInto(target, tied);
            } else {
                record[target] = tied;
            }
            tired[keeper] += 1 + Knots.knotsOf(tied) / KNOTS_THAT_TIRE;
            carriedBy[keeper]++;
            carried++;
        }

        /** Lets keepers recover and moths eat, and begins the next month. */
        void endMonth() {
            for (int keeper = 0; keeper < told.keepers; keeper++) {
                tired[keeper] = Math.max(0, tired[keeper] - told.care[keeper]);
            }
            if (month % MONTHS_OF_MOTHS == 0) {
                letMothsEat();
            }
            month++;
        }

        private void letMothsEat() {
            int best = -1;
            int most = 0;
            for (int cord = 0; cord < told.cords; cord++) {
                int turns = Knots.turnsOf(value[cord]);
                if (turns > most) {
                    most = turns;
                    best = cord;
                }
            }
            if (best >= 0) {
                tieInto(best, Knots.eaten(value[best]));
                eaten++;
            }
        }

        // ---- what is told of it

        int countTells(int what) {
            switch (what) {
                case 0:
                    return month;
                case 1:
                    return told.colours;
                case 2:
                    return told.cords;
                case 3:
                    return told.tops;
                case 4:
                    return told.keepers;
                case 5:
                    return told.orders;
                case 6:
                    return valuesOfAll();
                case 7:
                    return knotsOfAll();
                case 8:
                    return turnsOfAll();
                case 9:
                    return wrongTops();
                case 10:
                    return carried;
                default:
                    return eaten;
            }
        }

        int valuesOfAll() {
            int values = 0;
            for (int cord = 0; cord < told.cords; cord++) {
                values += value[cord];
            }
            return values;
        }

        private int knotsOfAll() {
            int knots = 0;
            for (int cord = 0; cord < told.cords; cord++) {
                knots += Knots.knotsOf(value[cord]);
            }
            return knots;
        }

        private int turnsOfAll() {
            int turns = 0;
            for (int cord = 0; cord < told.cords; cord++) {
                turns += Knots.turnsOf(value[cord]);
            }
            return turns;
        }

        int colourTells(int colour, int what) {
            if (what == 0) {
                return told.rank[colour];
            }
            int cords = 0;
            int values = 0;
            for (int cord = 0; cord < told.cords; cord++) {
                if (colourOf[cord] == colour) {
                    cords++;
                    values += value[cord];
                }
            }
            return what == 1 ? cords : values;
        }

        int cordTells(int cord, int what) {
            switch (what) {
                case 0:
                    return colourOf[cord];
                case 1:
                    return under[cord];
                case 2:
                    return depthOf(cord);
                case 3:
                    return value[cord];
                case 4:
                    return sum[cord];
                case 5:
                    return Knots.knotsOf(value[cord]);
                case 6:
                    return Knots.turnsOf(value[cord]);
                case 7:
                    return cordsUnder(cord);
                default:
                    return topsOver(cord);
            }
        }

        private int topsOver(int cord) {
            int tops = 0;
            for (int top = 0; top < told.tops; top++) {
                tops += told.isOver(top, cord) ? 1 : 0;
            }
            return tops;
        }

        int topTells(int top, int what) {
            switch (what) {
                case 0:
                    return told.topSize[top];
                case 1:
                    return record[top];
                case 2:
                    return countedBelow(top);
                default:
                    return isWrong(top) ? 1 : 0;
            }
        }

        int keeperTells(int keeper, int what) {
            switch (what) {
                case 0:
                    return told.care[keeper];
                case 1:
                    return tired[keeper];
                case 2:
                    return carriedBy[keeper];
                default:
                    return isTooTired(keeper) ? 1 : 0;
            }
        }
    }

    /** Lets months go by: reckons the orders, and has a state carry them out. */
    private static final class Calendar {
        private final int[] stack = new int[Tokens.MOST];
        private int height = 0;

        void letPass(State state, int months) {
            for (int n = 0; n < months; n++) {
                letOrdersBeCarriedOut(state);
                state.endMonth();
            }
        }

        private void letOrdersBeCarriedOut(State state) {
            Told told = state.told;
            int from = 0;
            for (int order = 0; order < told.orders; order++) {
                int test = told.testFrom[order];
                int end = told.codeEnd[order];
                if (test == end || reckoned(state, test, end) != 0) {
                    state.carryOut(order, reckoned(state, from, test));
                }
                from = end;
            }
        }

        /** Returns what a part of the code comes to; a test comes to 1, if it holds, else to 0. */
        private int reckoned(State state, int from, int to) {
            Code code = state.told.code;
            height = 0;
            for (int n = Math.max(from, 0); n < to && n < code.length(); n++) {
                int step = code.step[n];
                if (step <= Kind.WRONG || step == Kind.NUMBER) {
                    push(operandOf(state, step, code.operand[n]));
                } else if (step == Kind.NEGATE || step == Kind.NOT) {
                    int value = pop();
                    push(step == Kind.NEGATE ? -value : 1 - value);
                } else {
                    int right = pop();
                    int left = pop();
                    push(joined(step, left, right));
                }
            }
            return pop();
        }

        private static int operandOf(State state, int step, int operand) {
            switch (step) {
                case Kind.NUMBER:
                    return operand;
                case Kind.MONTH:
                    return state.month;
                case Kind.VALUE:
                    return state.told.hasCord(operand) ? state.value[operand] : 0;
                case Kind.SUM:
                    return state.told.hasCord(operand) ? state.sum[operand] : 0;
                case Kind.KNOTS:
                    return state.told.hasCord(operand) ? Knots.knotsOf(state.value[operand]) : 0;
                case Kind.RECORD:
                    return state.told.hasTop(operand) ? state.record[operand] : 0;
                case Kind.TIRED:
                    return state.told.hasKeeper(operand) ? state.tired[operand] : 0;
                default:
                    boolean isTop = state.told.hasTop(operand);
                    return isTop && state.record[operand] != state.countedBelow(operand) ? 1 : 0;
            }
        }

        private static int joined(int step, int left, int right) {
            switch (step) {
                case Kind.PLUS:
                    return left + right;
                case Kind.MINUS:
                    return left - right;
                case Kind.TIMES:
                    return left * right;
                case Kind.DIVIDE:
                    return right == 0 ? 0 : left / right;
                case Kind.MIN:
                    return Math.min(left, right);
                case Kind.MAX:
                    return Math.max(left, right);
                case Kind.AND:
                    return left & right;
                case Kind.OR:
                    return left | right;
                default:
                    return compares(step, left, right) ? 1 : 0;
            }
        }

        private static boolean compares(int step, int left, int right) {
            switch (step) {
                case Kind.LESS:
                    return left < right;
                case Kind.GREATER:
                    return left > right;
                case Kind.EQUAL:
                    return left == right;
                case Kind.AT_MOST:
                    return left <= right;
                default:
                    return left >= right;
            }
        }

        private void push(int number) {
            if (height < stack.length) {
                stack[height] = number;
                height++;
            }
        }

        private int pop() {
            if (height <= 0) {
                return 0;
            }
            height--;
            return stack[height];
        }
    }
}
