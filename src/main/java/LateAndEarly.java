import java.util.Arrays;

/**
 * Routines told as texts, where their sums can be set so that no way works them oftener,
 * and runs of the plain and of the placed routines.
 *
 * A set of SUMS is an int with a bit for each SUM (there are at most 32), so that what the
 * document says of one SUM is found for all of them at once.
 */
public final class LateAndEarly {
    public static final int NONE = -1, BAD = -2, FULL = -3, STATE = -4;

    private static final int PLACES = 4, PLACINGS = 3, PLAIN = 0, EARLY = 1, LATE = 2;
    private static final int MOST_BYTES = 3000, MOST_BLOCKS = 40, MOST_STATEMENTS = 160;
    private static final int MOST_SUMS = 32, MOST_NODES = MOST_STATEMENTS + 2 * MOST_BLOCKS;
    private static final int MOST_TOLD = 100, MOST_NODES_RUN = 1000, MOST_ON_WAY = 60;
    private static final int NAMES = 48, FIRST_T = 16, ROWS = 2, ROW_LENGTH = 8;

    /** An operand is one int: a number as it is, or, beyond all numbers, NAME_CODE and the NAME. */
    private static final int NAME_CODE = 1000000000;

    // The kinds of NODES.
    private static final int SUM_TO_NAME = 0, OPERAND_TO_NAME = 1, TO_ROW = 2, TELL = 3;
    private static final int GO = 4, IF = 5, LEAVE = 6, ON_THE_WAY = 7;

    private final Tape tape = new Tape();
    private final Routine[] routines = new Routine[PLACES];
    private final Parser parser = new Parser();
    private final Runner runner = new Runner();
    private final Writer writer = new Writer();
    private int latestFault;

    public LateAndEarly() {
    }

    public int feed(long w, int n) {
        if (n < 1 || n > 8) {
            return BAD;
        }
        if (tape.length + n > MOST_BYTES) {
            return FULL;
        }
        for (int i = n - 1; i >= 0; i--) {
            tape.add((int) (w >>> (8 * i)) & 255);
        }
        return tape.length;
    }

    public int cut(int n) {
        if (n < 0 || n > tape.length) {
            return BAD;
        }
        tape.length = n;
        return n;
    }

    public int tape(int i) {
        int found = tape.byteAt(i);
        return found < 0 ? NONE : found;
    }

    public int parse(int p) {
        if (p < 0 || p >= PLACES) {
            return NONE;
        }
        boolean faultless = parser.readText(tape);
        tape.length = 0;
        latestFault = parser.fault;
        if (!faultless) {
            return -10 - parser.place;
        }
        Routine read = parser.routine;
        if (read.sums.tooMany) {
            return FULL;
        }
        read.finish();
        parser.routine = routines[p] == null ? new Routine() : routines[p];
        routines[p] = read;
        return read.nodes;
    }

    public int wrong() {
        return latestFault;
    }

    public int about(int p, int what) {
        Routine r = routineAt(p);
        if (r == null) {
            return NONE;
        }
        switch (what) {
            case 0: return r.blocks;
            case 1: return r.nodes;
            case 2: return r.sums.count;
            case 3: return r.nodes - r.statements;
            case 4: return r.statements;
            default: return NONE;
        }
    }

    public int node(int p, int n, int what) {
        Routine r = routineAt(p);
        if (r == null || !r.hasNode(n)) {
            return NONE;
        }
        switch (what) {
            case 0: return r.kind[n];
            case 1: return r.block[n];
            case 2: return r.sumOf[n];
            case 3: return r.leads[0][n];
            case 4: return r.leads[1][n];
            case 5: return r.ledBy[n];
            default: return NONE;
        }
    }

    public int sum(int p, int e, int what) {
        Routine r = routineAt(p);
        if (r == null || !r.sums.has(e)) {
            return NONE;
        }
        switch (what) {
            case 0: return r.sums.sign[e];
            case 1: return toldOperand(r.sums.first[e]);
            case 2: return toldOperand(r.sums.second[e]);
            case 3: return r.sums.isBold(e) ? 1 : 0;
            case 4: return r.countNodesThatWork(e);
            default: return NONE;
        }
    }

    public int at(int p, int e, int n, int what) {
        Routine r = routineAt(p);
        if (r == null || !r.sums.has(e) || !r.hasNode(n) || what < 0 || what > 7) {
            return NONE;
        }
        return r.facts.setAt(what, n) >>> e & 1;
    }

    public int placed(int p, int placing, int e, int n, int what) {
        Routine r = routineAt(p);
        if (r == null || !isPlacing(placing) || !r.sums.has(e) || !r.hasNode(n)) {
            return NONE;
        }
        switch (what) {
            case 0: return r.facts.setAhead(placing, n) >>> e & 1;
            case 1: return r.facts.taken(placing, n) >>> e & 1;
            case 2: return r.facts.alive(placing, n) >>> e & 1;
            default: return NONE;
        }
    }

    public int life(int p, int placing, int e) {
        Routine r = routineAt(p);
        if (r == null || !isPlacing(placing) || !r.sums.has(e)) {
            return NONE;
        }
        int count = 0;
        for (int n = 0; n < r.nodes; n++) {
            count += r.facts.alive(placing, n) >>> e & 1;
        }
        return count;
    }

    public int places(int p, int placing, int e, int what) {
        Routine r = routineAt(p);
        if (r == null || !isPlacing(placing) || !r.sums.has(e) || what < 0 || what > 1) {
            return NONE;
        }
        int count = 0;
        for (int n = 0; n < r.nodes; n++) {
            int set = what == 0 ? r.facts.setAhead(placing, n) : r.facts.taken(placing, n);
            count += set >>> e & 1;
        }
        return count;
    }

    public int name(int k, int x) {
        if (k < 0 || k >= NAMES) {
            return 0;
        }
        int was = runner.begin[k];
        runner.begin[k] = x;
        return was;
    }

    public int run(int p, int placing) {
        Routine r = routineAt(p);
        if (r == null || !isPlacing(placing)) {
            return NONE;
        }
        runner.go(r, placing);
        return runner.ended;
    }

    public int ran(int what) {
        switch (what) {
            case 0: return runner.ended;
            case 1: return runner.came;
            case 2: return runner.toldCount;
            case 3: return runner.refusedBlock;
            case 4: return runner.workedAll;
            default: return NONE;
        }
    }

    public int told(int i) {
        return i >= 0 && i < MOST_TOLD && i < runner.toldCount ? runner.told[i] : 0;
    }

    public int value(int k) {
        return k >= 0 && k < NAMES ? runner.names[k] : 0;
    }

    public int row(int r, int i) {
        if (r < 0 || r >= ROWS || i < 0 || i >= ROW_LENGTH) {
            return 0;
        }
        return runner.rows[r][i];
    }

    public int worked(int e) {
        return e >= 0 && e < MOST_SUMS ? runner.workedOf[e] : NONE;
    }

    public int step(int p, int block) {
        Routine r = routineAt(p);
        if (r == null || block < 0 || block >= r.blocks) {
            return NONE;
        }
        if (!r.wayCanGoTo(block)) {
            return BAD;
        }
        if (r.wayLength >= MOST_ON_WAY) {
            return FULL;
        }
        r.way[r.wayLength++] = block;
        return r.wayLength;
    }

    public int home(int p) {
        Routine r = routineAt(p);
        if (r == null) {
            return NONE;
        }
        int had = r.wayLength;
        r.wayLength = 0;
        return had;
    }

    public int works(int p, int placing, int e) {
        Routine r = routineAt(p);
        if (r == null || !isPlacing(placing) || !r.sums.has(e)) {
            return NONE;
        }
        return r.countOnWay(placing, e);
    }

    public int write(int p, int placing) {
        Routine r = routineAt(p);
        if (r == null || !isPlacing(placing)) {
            return NONE;
        }
        if (placing != PLAIN && r.hasT) {
            return STATE;
        }
        writer.writeRoutine(r, placing);
        if (writer.tooLong) {
            return FULL;
        }
        tape.hold(writer.bytes, writer.length);
        return tape.length;
    }

    private Routine routineAt(int p) {
        return p >= 0 && p < PLACES ? routines[p] : null;
    }

    private static boolean isPlacing(int placing) {
        return placing >= 0 && placing < PLACINGS;
    }

    private static boolean isName(int operand) {
        return operand >= NAME_CODE;
    }

    private static int toldOperand(int operand) {
        if (operand >= NAME_CODE + FIRST_T) {
            return 2000 + operand - NAME_CODE - FIRST_T;
        }
        if (isName(operand)) {
            return 1000 + operand - NAME_CODE;
        }
        return Math.max(-999, Math.min(999, operand));
    }

    /** Bytes, as many as THE TAPE may have. */
    private static final class Tape {
        final byte[] bytes = new byte[MOST_BYTES];
        int length;

        void add(int b) {
            if (length >= 0 && length < bytes.length) {
                bytes[length++] = (byte) b;
            }
        }

        /** -1 where there is no byte. */
        int byteAt(int i) {
            return i >= 0 && i < length && i < bytes.length ? bytes[i] & 255 : -1;
        }

        void hold(byte[] others, int count) {
            length = Math.min(count, Math.min(others.length, bytes.length));
            System.arraycopy(others, 0, bytes, 0, length);
        }
    }

    /** The TOKENS of a text, each with its kind, its value and its place; the last one is END. */
    private static final class Tokens {
        static final int END = 0, STRANGE = 1, OTHER = 2, NAME = 3, ROW = 4, BLOCK = 5;
        static final int NUMBER = 6, SIGN = 7, KEYWORD = 8;

        final int[] kind = new int[MOST_BYTES + 1];
        final int[] value = new int[MOST_BYTES + 1];
        final int[] place = new int[MOST_BYTES + 1];
        int count;

        void scan(Tape text) {
            count = 0;
            int end = 0;
            for (int i = 0; i < text.length; i++) {
                if (i >= end && !isBlank(text.byteAt(i))) {
                    end = scanToken(text, i);
                }
            }
            add(END, 0, text.length);
        }

        private void add(int itsKind, int itsValue, int itsPlace) {
            if (count < kind.length) {
                kind[count] = itsKind;
                value[count] = itsValue;
                place[count] = itsPlace;
                count++;
            }
        }

        /** Answers where the TOKEN ends. */
        private int scanToken(Tape text, int from) {
            int b = text.byteAt(from);
            if (isLetter(b) || isDigit(b)) {
                return scanWordOrNumber(text, from);
            }
            add(isSign(b) ? SIGN : STRANGE, b, from);
            return from + 1;
        }

        private int scanWordOrNumber(Tape text, int from) {
            int letters = endOfLetters(text, from);
            int digits = endOfDigits(text, letters);
            int end = endOfBoth(text, digits);
            boolean isNumber = letters == from;
            if (end != digits || end - from > (isNumber ? 9 : 8)) {
                add(STRANGE, 0, from);
            } else if (isNumber) {
                add(NUMBER, numberOf(text, from, end), from);
            } else if (letters == end) {
                addLetters(text, from, end);
            } else {
                addNumbered(text, from, letters, end);
            }
            return end;
        }

        private void addLetters(Tape text, int from, int end) {
            if (isText(text, from, end, "tell")) {
                add(KEYWORD, TELL, from);
            } else if (isText(text, from, end, "go")) {
                add(KEYWORD, GO, from);
            } else if (isText(text, from, end, "if")) {
                add(KEYWORD, IF, from);
            } else if (isText(text, from, end, "leave")) {
                add(KEYWORD, LEAVE, from);
            } else {
                add(OTHER, 0, from);
            }
        }

        private void addNumbered(Tape text, int from, int letters, int end) {
            int k = numberOf(text, letters, end);
            boolean padded = text.byteAt(letters) == '0' && end - letters > 1;
            int letter = padded || letters - from != 1 ? 0 : text.byteAt(from);
            if (letter == 'v' && k < FIRST_T) {
                add(NAME, k, from);
            } else if (letter == 't' && k < NAMES - FIRST_T) {
                add(NAME, FIRST_T + k, from);
            } else if (letter == 'r' && k < ROWS) {
                add(ROW, k, from);
            } else if (letter == 'b' && k < MOST_BLOCKS) {
                add(BLOCK, k, from);
            } else {
                add(OTHER, 0, from);
            }
        }

        private static int endOfLetters(Tape text, int from) {
            int i = from;
            while (i < text.length && isLetter(text.byteAt(i))) {
                i++;
            }
            return i;
        }

        private static int endOfDigits(Tape text, int from) {
            int i = from;
            while (i < text.length && isDigit(text.byteAt(i))) {
                i++;
            }
            return i;
        }

        private static int endOfBoth(Tape text, int from) {
            int i = from;
            while (i < text.length && (isLetter(text.byteAt(i)) || isDigit(text.byteAt(i)))) {
                i++;
            }
            return i;
        }

        private static int numberOf(Tape text, int from, int end) {
            int number = 0;
            for (int i = from; i < end; i++) {
                number = 10 * number + text.byteAt(i) - '0';
            }
            return number;
        }

        private static boolean isText(Tape text, int from, int end, String letters) {
            boolean same = end - from == letters.length();
            for (int i = 0; same && i < letters.length(); i++) {
                same = text.byteAt(from + i) == letters.charAt(i);
            }
            return same;
        }

        private static boolean isBlank(int b) {
            return b == ' ' || b == '\n';
        }

        private static boolean isLetter(int b) {
            return b >= 'a' && b <= 'z';
        }

        private static boolean isDigit(int b) {
            return b >= '0' && b <= '9';
        }

        private static boolean isSign(int b) {
            return ":;=<[]".indexOf((char) b) >= 0 || isSumSign(b);
        }

        static boolean isSumSign(int b) {
            return "+-*/&^".indexOf((char) b) >= 0;
        }
    }

    /** Reads a text into its routine, up to the first FAULT. */
    private static final class Parser {
        private static final int STRANGE_FAULT = 1, OUT_OF_PLACE = 2, TOO_MUCH = 3;
        private static final int NO_BLOCK = 4, NOT_COME_TO = 5, NO_LEAVE = 6;

        private final Tokens tokens = new Tokens();
        private final int[] headPlace = new int[MOST_BLOCKS];
        private final int[][] namedPlace = new int[2][MOST_BLOCKS];
        private int now;
        private int operand;
        Routine routine = new Routine();
        int fault;
        int place;

        /** Whether the text has no FAULT; else fault and place tell it. */
        boolean readText(Tape text) {
            tokens.scan(text);
            now = 0;
            fault = 0;
            routine.clear();
            for (int b = 0; b < MOST_BLOCKS && (b == 0 || !isNow(Tokens.END)); b++) {
                if (!readBlock(b)) {
                    return false;
                }
            }
            if (!isNow(Tokens.END)) {
                return refuse(TOO_MUCH);
            }
            return areNamedBlocksThere()
                && areAllIn(routine.blocksComeTo(), NOT_COME_TO)
                && areAllIn(routine.blocksThatLeave(), NO_LEAVE);
        }

        private boolean readBlock(int b) {
            if (!isNow(Tokens.BLOCK) || tokens.value[now] != b) {
                return refuse(OUT_OF_PLACE);
            }
            headPlace[b] = tokens.place[now];
            now++;
            routine.addBlock();
            if (!takeSign(':')) {
                return false;
            }
            for (int i = 0; i <= MOST_STATEMENTS; i++) {
                int kind = kindThatBegins();
                if (kind < 0) {
                    return refuse(OUT_OF_PLACE);
                }
                if (routine.statements >= MOST_STATEMENTS) {
                    return refuse(TOO_MUCH);
                }
                if (!readStatement(kind) || !takeSign(';')) {
                    return false;
                }
                if (kind == GO || kind == IF || kind == LEAVE) {
                    return true;
                }
            }
            return refuse(TOO_MUCH);
        }

        /** The kind of statement or end that begins here (with a NAME: either of two); -1: none. */
        private int kindThatBegins() {
            if (isNow(Tokens.NAME)) {
                return OPERAND_TO_NAME;
            }
            if (isNow(Tokens.ROW)) {
                return TO_ROW;
            }
            return isNow(Tokens.KEYWORD) ? tokens.value[now] : -1;
        }

        private boolean readStatement(int kind) {
            int n = routine.addNode(kind, routine.blocks - 1);
            int begin = tokens.value[now];
            now++;
            switch (kind) {
                case OPERAND_TO_NAME:
                    routine.target[n] = begin;
                    routine.hasT |= begin >= FIRST_T;
                    return takeSign('=') && readValue(n);
                case TO_ROW:
                    routine.target[n] = begin;
                    return takeSign('[') && readOperand(n, 0) && takeSign(']')
                        && takeSign('=') && readOperand(n, 1);
                case TELL:
                    return readOperand(n, 0);
                case GO:
                    return readWay(n, 0);
                case IF:
                    return readOperand(n, 0) && takeSign('<') && readOperand(n, 1)
                        && readWay(n, 0) && readWay(n, 1);
                default:
                    return true;
            }
        }

        private boolean readValue(int n) {
            if (isNow(Tokens.ROW)) {
                int r = tokens.value[now];
                now++;
                if (!takeSign('[') || !readOperand(n, 1) || !takeSign(']')) {
                    return false;
                }
                routine.makeSum(n, 'r', r, operand);
                return true;
            }
            if (!readOperand(n, 0)) {
                return false;
            }
            if (!isNow(Tokens.SIGN) || !Tokens.isSumSign(tokens.value[now])) {
                return true;
            }
            int sign = tokens.value[now];
            int first = operand;
            now++;
            if (!readOperand(n, 1)) {
                return false;
            }
            routine.makeSum(n, sign, first, operand);
            return true;
        }

        private boolean readOperand(int n, int which) {
            boolean negative = isNow(Tokens.SIGN) && tokens.value[now] == '-';
            if (negative) {
                now++;
            }
            if (isNow(Tokens.NUMBER)) {
                operand = negative ? -tokens.value[now] : tokens.value[now];
            } else if (isNow(Tokens.NAME) && !negative) {
                operand = NAME_CODE + tokens.value[now];
                routine.hasT |= tokens.value[now] >= FIRST_T;
            } else {
                return refuse(OUT_OF_PLACE);
            }
            now++;
            routine.operands[which][n] = operand;
            return true;
        }

        private boolean readWay(int n, int which) {
            if (!isNow(Tokens.BLOCK)) {
                return refuse(OUT_OF_PLACE);
            }
            routine.to[which][n] = tokens.value[now];
            namedPlace[which][routine.blocks - 1] = tokens.place[now];
            now++;
            return true;
        }

        private boolean takeSign(int sign) {
            if (!isNow(Tokens.SIGN) || tokens.value[now] != sign) {
                return refuse(OUT_OF_PLACE);
            }
            now++;
            return true;
        }

        private boolean isNow(int kind) {
            return now < tokens.count && tokens.kind[now] == kind;
        }

        /** A FAULT of the TOKEN here; one that is no TOKEN has the least of them. */
        private boolean refuse(int why) {
            fault = isNow(Tokens.STRANGE) ? STRANGE_FAULT : why;
            place = now < tokens.count ? tokens.place[now] : 0;
            return false;
        }

        private boolean refuseAt(int why, int where) {
            fault = why;
            place = where;
            return false;
        }

        private boolean areNamedBlocksThere() {
            for (int b = 0; b < routine.blocks; b++) {
                int end = routine.endOf(b);
                for (int w = 0; w < 2; w++) {
                    int to = routine.to[w][end];
                    if (to == 0 || to >= routine.blocks) {
                        return refuseAt(NO_BLOCK, namedPlace[w][b]);
                    }
                }
            }
            return true;
        }

        private boolean areAllIn(long found, int why) {
            for (int b = 0; b < routine.blocks; b++) {
                if ((found >>> b & 1) == 0) {
                    return refuseAt(why, headPlace[b]);
                }
            }
            return true;
        }
    }

    /** The SUMS of a ROUTINE. One of a ROW has the sign r, the ROW, and what is in the brackets. */
    private static final class Sums {
        final int[] sign = new int[MOST_SUMS];
        final int[] first = new int[MOST_SUMS];
        final int[] second = new int[MOST_SUMS];
        int count;
        boolean tooMany;

        void clear() {
            count = 0;
            tooMany = false;
        }

        boolean has(int e) {
            return e >= 0 && e < count;
        }

        /** The number of a SUM, a new one if it did not stand before; -1 if there are too many. */
        int numberFor(int itsSign, int itsFirst, int itsSecond) {
            for (int e = 0; e < count; e++) {
                if (sign[e] == itsSign && first[e] == itsFirst && second[e] == itsSecond) {
                    return e;
                }
            }
            if (count >= MOST_SUMS) {
                tooMany = true;
                return -1;
            }
            sign[count] = itsSign;
            first[count] = itsFirst;
            second[count] = itsSecond;
            return count++;
        }

        boolean isBold(int e) {
            return sign[e] == '/' || sign[e] == 'r';
        }

        int everyOne() {
            return count >= MOST_SUMS ? -1 : (1 << count) - 1;
        }

        int boldOnes() {
            int set = 0;
            for (int e = 0; e < count; e++) {
                set |= isBold(e) ? 1 << e : 0;
            }
            return set;
        }

        int withName(int name) {
            int set = 0;
            for (int e = 0; e < count; e++) {
                boolean has = first[e] == NAME_CODE + name || second[e] == NAME_CODE + name;
                set |= has ? 1 << e : 0;
            }
            return set;
        }

        int ofRow(int row) {
            int set = 0;
            for (int e = 0; e < count; e++) {
                set |= sign[e] == 'r' && first[e] == row ? 1 << e : 0;
            }
            return set;
        }
    }

    /** A ROUTINE: its NODES, SUMS and WAY. Where a NODE has not a thing, its row holds -1. */
    private static final class Routine {
        final int[] kind = new int[MOST_NODES];
        final int[] block = new int[MOST_NODES];
        /** The NAME or the ROW that the statement changes. */
        final int[] target = new int[MOST_NODES];
        final int[][] operands = new int[2][MOST_NODES];
        final int[] sumOf = new int[MOST_NODES];
        /** The blocks that an end names. */
        final int[][] to = new int[2][MOST_NODES];
        final int[][] leads = new int[2][MOST_NODES];
        final int[] ledBy = new int[MOST_NODES];
        /** The first NODE of each block, and behind them that at which the last block is over. */
        final int[] firstOf = new int[MOST_BLOCKS + 1];
        final int[] way = new int[MOST_ON_WAY];
        final Sums sums = new Sums();
        final Facts facts = new Facts();
        int blocks;
        int statements;
        int nodes;
        int wayLength;
        boolean hasT;

        void clear() {
            sums.clear();
            blocks = 0;
            statements = 0;
            nodes = 0;
            wayLength = 0;
            hasT = false;
        }

        void addBlock() {
            firstOf[blocks++] = statements;
            firstOf[blocks] = statements;
        }

        /** Adds a statement or an end; the block that it belongs to reaches up to it. */
        int addNode(int itsKind, int itsBlock) {
            int n = newNode(itsKind, itsBlock);
            statements = nodes;
            firstOf[blocks] = statements;
            return n;
        }

        private int newNode(int itsKind, int itsBlock) {
            int n = Math.min(nodes, MOST_NODES - 1);
            nodes = n + 1;
            kind[n] = itsKind;
            block[n] = itsBlock;
            target[n] = -1;
            sumOf[n] = -1;
            for (int w = 0; w < 2; w++) {
                operands[w][n] = 0;
                to[w][n] = -1;
                leads[w][n] = -1;
            }
            return n;
        }

        void makeSum(int n, int sign, int first, int second) {
            kind[n] = SUM_TO_NAME;
            sumOf[n] = sums.numberFor(sign, first, second);
        }

        /** To be called once, when all statements are there and without a FAULT. */
        void finish() {
            for (int n = 0; n < statements; n++) {
                linkNode(n);
            }
            countLedBy();
            facts.find(this);
        }

        private void linkNode(int n) {
            if (kind[n] != GO && kind[n] != IF && kind[n] != LEAVE) {
                leads[0][n] = n + 1;
                return;
            }
            for (int w = 0; w < 2; w++) {
                int next = to[w][n];
                if (next >= 0 && kind[n] == IF && countWaysTo(next) > 1) {
                    leads[w][n] = addOnTheWay(next);
                } else if (next >= 0) {
                    leads[w][n] = firstOf[next];
                }
            }
        }

        private int addOnTheWay(int next) {
            int n = newNode(ON_THE_WAY, next);
            to[0][n] = next;
            leads[0][n] = firstOf[next];
            return n;
        }

        private void countLedBy() {
            Arrays.fill(ledBy, 0);
            for (int n = 0; n < nodes; n++) {
                for (int w = 0; w < 2; w++) {
                    if (leads[w][n] >= 0) {
                        ledBy[leads[w][n]]++;
                    }
                }
            }
        }

        private int countWaysTo(int next) {
            int count = 0;
            for (int b = 0; b < blocks; b++) {
                count += to[0][endOf(b)] == next ? 1 : 0;
                count += to[1][endOf(b)] == next ? 1 : 0;
            }
            return count;
        }

        int endOf(int b) {
            return Math.max(0, firstOf[b + 1] - 1);
        }

        boolean hasNode(int n) {
            return n >= 0 && n < nodes;
        }

        int countNodesThatWork(int e) {
            int count = 0;
            for (int n = 0; n < statements; n++) {
                count += sumOf[n] == e ? 1 : 0;
            }
            return count;
        }

        long blocksComeTo() {
            long found = 1;
            for (int round = 0; round < blocks; round++) {
                for (int b = 0; b < blocks; b++) {
                    if ((found >>> b & 1) == 1) {
                        found |= blocksNamedBy(b);
                    }
                }
            }
            return found;
        }

        long blocksThatLeave() {
            long found = 0;
            for (int round = 0; round < blocks; round++) {
                for (int b = blocks - 1; b >= 0; b--) {
                    if (kind[endOf(b)] == LEAVE || (blocksNamedBy(b) & found) != 0) {
                        found |= 1L << b;
                    }
                }
            }
            return found;
        }

        private long blocksNamedBy(int b) {
            int end = endOf(b);
            long named = to[0][end] < 0 ? 0 : 1L << to[0][end];
            return named | (to[1][end] < 0 ? 0 : 1L << to[1][end]);
        }

        boolean wayCanGoTo(int next) {
            if (wayLength == 0) {
                return next == 0;
            }
            int end = endOf(way[wayLength - 1]);
            return to[0][end] == next || to[1][end] == next;
        }

        int countOnWay(int placing, int e) {
            int count = 0;
            for (int i = 0; i < wayLength; i++) {
                int b = way[i];
                for (int n = firstOf[b]; n < firstOf[b + 1]; n++) {
                    count += facts.countWorked(placing, e, n);
                }
                int between = i + 1 < wayLength ? leadsTowards(b, way[i + 1]) : -1;
                if (between >= statements) {
                    count += facts.countWorked(placing, e, between);
                }
            }
            return count;
        }

        /** The NODE to which a block leads by its first way to another one. */
        private int leadsTowards(int b, int next) {
            int end = endOf(b);
            return to[0][end] == next ? leads[0][end] : leads[1][end];
        }
    }

    /** What holds of the SUMS at each NODE of a ROUTINE: sets of SUMS. */
    private static final class Facts {
        private final int[] works = new int[MOST_NODES];
        private final int[] kills = new int[MOST_NODES];
        private final int[] wanted = new int[MOST_NODES];
        private final int[] there = new int[MOST_NODES];
        private final int[] early = new int[MOST_NODES];
        private final int[] delayed = new int[MOST_NODES];
        private final int[] latest = new int[MOST_NODES];
        private final int[] alone = new int[MOST_NODES];
        private final int[] aliveEarly = new int[MOST_NODES];
        private final int[] aliveLate = new int[MOST_NODES];
        private int all;

        void find(Routine r) {
            all = r.sums.everyOne();
            for (int n = 0; n < r.nodes; n++) {
                findWorksAndKills(r, n);
            }
            findWanted(r);
            findThere(r);
            findEarly(r);
            findDelayed(r);
            for (int n = 0; n < r.nodes; n++) {
                latest[n] = delayed[n] & (works[n] | ~allNext(r, delayed, n));
            }
            findAlone(r);
            findAlive(r, EARLY, aliveEarly);
            findAlive(r, LATE, aliveLate);
        }

        int setAt(int what, int n) {
            switch (what) {
                case 0: return works[n];
                case 1: return kills[n];
                case 2: return wanted[n];
                case 3: return there[n];
                case 4: return early[n];
                case 5: return delayed[n];
                case 6: return latest[n];
                default: return alone[n];
            }
        }

        int setAhead(int placing, int n) {
            switch (placing) {
                case EARLY: return early[n];
                case LATE: return latest[n] & ~alone[n];
                default: return 0;
            }
        }

        int taken(int placing, int n) {
            switch (placing) {
                case EARLY: return works[n];
                case LATE: return works[n] & ~(latest[n] & alone[n]);
                default: return 0;
            }
        }

        int alive(int placing, int n) {
            switch (placing) {
                case EARLY: return aliveEarly[n];
                case LATE: return aliveLate[n];
                default: return 0;
            }
        }

        int countWorked(int placing, int e, int n) {
            int set = setAhead(placing, n) >>> e & 1;
            int worked = (works[n] & ~taken(placing, n)) >>> e & 1;
            return set + worked;
        }

        private void findWorksAndKills(Routine r, int n) {
            works[n] = r.sumOf[n] < 0 ? 0 : 1 << r.sumOf[n];
            switch (r.kind[n]) {
                case SUM_TO_NAME:
                case OPERAND_TO_NAME:
                    kills[n] = r.sums.withName(r.target[n]);
                    break;
                case TO_ROW:
                    kills[n] = r.sums.ofRow(r.target[n]);
                    break;
                default:
                    kills[n] = 0;
            }
        }

        // The greatest sets are found by beginning with all SUMS at each NODE and taking away
        // what can't stay. A round that goes on takes at least one SUM away from some NODE, and
        // no SUM looks at another one, so there are no more rounds than NODES, and one.

        private void findWanted(Routine r) {
            int bold = r.sums.boldOnes();
            Arrays.fill(wanted, all);
            boolean changed = true;
            for (int round = 0; changed && round <= r.nodes; round++) {
                changed = false;
                for (int n = r.nodes - 1; n >= 0; n--) {
                    int stopped = kills[n] | (isSeen(r, n, bold) ? bold : 0);
                    int set = works[n] | ~stopped & allNext(r, wanted, n);
                    changed |= set != wanted[n];
                    wanted[n] = set;
                }
            }
        }

        private boolean isSeen(Routine r, int n, int bold) {
            return r.kind[n] == TELL || r.kind[n] == TO_ROW || (works[n] & bold) != 0;
        }

        private void findThere(Routine r) {
            Arrays.fill(there, all);
            there[0] = 0;
            boolean changed = true;
            for (int round = 0; changed && round <= r.nodes; round++) {
                changed = false;
                for (int n = 0; n < r.nodes; n++) {
                    changed |= keepInNext(r, n, there, 0, ~kills[n] & (works[n] | there[n]));
                }
            }
        }

        private void findEarly(Routine r) {
            Arrays.fill(early, 0);
            early[0] = wanted[0];
            for (int n = 0; n < r.nodes; n++) {
                int lost = kills[n] | ~(there[n] | wanted[n]);
                for (int w = 0; w < 2; w++) {
                    int next = r.leads[w][n];
                    if (next >= 0) {
                        early[next] |= lost & wanted[next];
                    }
                }
            }
        }

        private void findDelayed(Routine r) {
            Arrays.fill(delayed, all);
            delayed[0] = early[0];
            boolean changed = true;
            for (int round = 0; changed && round <= r.nodes; round++) {
                changed = false;
                for (int n = 0; n < r.nodes; n++) {
                    changed |= keepInNext(r, n, delayed, all, delayed[n] & ~works[n]);
                }
            }
        }

        /**
         * At the NODES to which n leads a set keeps only what n passes on, and, of the SUMS in
         * always, what is EARLY there; whether that took something away.
         */
        private boolean keepInNext(Routine r, int n, int[] set, int always, int passed) {
            boolean changed = false;
            for (int w = 0; w < 2; w++) {
                int next = r.leads[w][n];
                if (next >= 0) {
                    int left = set[next] & (passed | always & early[next]);
                    changed |= left != set[next];
                    set[next] = left;
                }
            }
            return changed;
        }

        private void findAlone(Routine r) {
            Arrays.fill(alone, all);
            boolean changed = true;
            for (int round = 0; changed && round <= r.nodes; round++) {
                changed = false;
                for (int n = r.nodes - 1; n >= 0; n--) {
                    int set = all;
                    for (int w = 0; w < 2; w++) {
                        int next = r.leads[w][n];
                        if (next >= 0) {
                            set &= latest[next] | ~works[next] & alone[next];
                        }
                    }
                    changed |= set != alone[n];
                    alone[n] = set;
                }
            }
        }

        /** The least sets: begun with none. */
        private void findAlive(Routine r, int placing, int[] alive) {
            Arrays.fill(alive, 0);
            boolean changed = true;
            for (int round = 0; changed && round <= r.nodes; round++) {
                changed = false;
                for (int n = r.nodes - 1; n >= 0; n--) {
                    int set = ~setAhead(placing, n) & (taken(placing, n) | anyNext(r, alive, n));
                    changed |= set != alive[n];
                    alive[n] = set;
                }
            }
        }

        /** What all NODES to which n leads have; none, if it leads nowhere. */
        private int allNext(Routine r, int[] set, int n) {
            int kept = r.leads[0][n] < 0 ? 0 : all;
            for (int w = 0; w < 2; w++) {
                if (r.leads[w][n] >= 0) {
                    kept &= set[r.leads[w][n]];
                }
            }
            return kept;
        }

        private int anyNext(Routine r, int[] set, int n) {
            int found = 0;
            for (int w = 0; w < 2; w++) {
                if (r.leads[w][n] >= 0) {
                    found |= set[r.leads[w][n]];
                }
            }
            return found;
        }
    }

    /** The latest RUN, and what NAMES begin with. */
    private static final class Runner {
        private static final int LEFT = 0, REFUSED = 1, SPENT = 2;

        final int[] begin = new int[NAMES];
        final int[] names = new int[NAMES];
        final int[][] rows = new int[ROWS][ROW_LENGTH];
        final int[] told = new int[MOST_TOLD];
        final int[] workedOf = new int[MOST_SUMS];
        private final int[] kept = new int[MOST_SUMS];
        private int result;
        int ended;
        int came;
        int toldCount;
        int refusedBlock;
        int workedAll;

        void go(Routine r, int placing) {
            reset();
            int n = 0;
            // Between two ends there is at most one NODE ON THE WAY.
            for (int i = 0; n >= 0 && i <= 2 * MOST_NODES_RUN; i++) {
                if (r.kind[n] != ON_THE_WAY) {
                    if (came >= MOST_NODES_RUN) {
                        ended = SPENT;
                        return;
                    }
                    came++;
                }
                if (!setAhead(r, placing, n) || !doNode(r, placing, n)) {
                    ended = REFUSED;
                    refusedBlock = r.block[n];
                    return;
                }
                n = nextOf(r, n);
            }
        }

        private void reset() {
            System.arraycopy(begin, 0, names, 0, NAMES);
            for (int i = 0; i < ROWS; i++) {
                Arrays.fill(rows[i], 0);
            }
            Arrays.fill(workedOf, 0);
            Arrays.fill(kept, 0);
            ended = LEFT;
            came = 0;
            toldCount = 0;
            refusedBlock = NONE;
            workedAll = 0;
        }

        private boolean setAhead(Routine r, int placing, int n) {
            int set = r.facts.setAhead(placing, n);
            for (int e = 0; set != 0 && e < r.sums.count; e++) {
                if ((set >>> e & 1) == 1) {
                    if (!work(r.sums, e)) {
                        return false;
                    }
                    kept[e] = result;
                }
            }
            return true;
        }

        /** Whether the NODE is not REFUSED. */
        private boolean doNode(Routine r, int placing, int n) {
            int first = valueOf(r.operands[0][n]);
            int second = valueOf(r.operands[1][n]);
            switch (r.kind[n]) {
                case SUM_TO_NAME:
                    return giveSum(r, placing, n);
                case OPERAND_TO_NAME:
                    giveName(r.target[n], first);
                    return true;
                case TO_ROW:
                    return giveRow(r.target[n], first, second);
                case TELL:
                    tellValue(first);
                    return true;
                default:
                    return true;
            }
        }

        private boolean giveSum(Routine r, int placing, int n) {
            int e = r.sumOf[n];
            if (!r.sums.has(e)) {
                return true;
            }
            if ((r.facts.taken(placing, n) >>> e & 1) == 1) {
                giveName(r.target[n], kept[e]);
                return true;
            }
            if (!work(r.sums, e)) {
                return false;
            }
            giveName(r.target[n], result);
            return true;
        }

        private void giveName(int k, int x) {
            if (k >= 0 && k < NAMES) {
                names[k] = x;
            }
        }

        private boolean giveRow(int row, int i, int x) {
            if (!hasPlace(row, i)) {
                return false;
            }
            rows[row][i] = x;
            return true;
        }

        private void tellValue(int x) {
            if (toldCount < MOST_TOLD) {
                told[toldCount] = x;
            }
            toldCount++;
        }

        /** Works a SUM into result; false if that is REFUSED. */
        private boolean work(Sums sums, int e) {
            workedOf[e]++;
            workedAll++;
            int first = valueOf(sums.first[e]);
            int second = valueOf(sums.second[e]);
            switch (sums.sign[e]) {
                case '+':
                    result = first + second;
                    return true;
                case '-':
                    result = first - second;
                    return true;
                case '*':
                    result = first * second;
                    return true;
                case '&':
                    result = first & second;
                    return true;
                case '^':
                    result = first ^ second;
                    return true;
                case '/':
                    return divide(first, second);
                default:
                    return readRow(first, second);
            }
        }

        private boolean divide(int first, int second) {
            if (second == 0) {
                return false;
            }
            result = first / second;
            return true;
        }

        private boolean readRow(int row, int i) {
            if (!hasPlace(row, i)) {
                return false;
            }
            result = rows[row][i];
            return true;
        }

        private static boolean hasPlace(int row, int i) {
            return row >= 0 && row < ROWS && i >= 0 && i < ROW_LENGTH;
        }

        private int valueOf(int operand) {
            int k = operand - NAME_CODE;
            return isName(operand) && k < NAMES ? names[k] : operand;
        }

        /** -1 behind a leave. */
        private int nextOf(Routine r, int n) {
            boolean second = r.kind[n] == IF
                && valueOf(r.operands[0][n]) >= valueOf(r.operands[1][n]);
            return r.leads[second ? 1 : 0][n];
        }
    }

    /** Writes ROUTINES as texts. */
    private static final class Writer {
        final byte[] bytes = new byte[MOST_BYTES];
        /** For a NODE ON THE WAY the number of the block that it is written as, or -1. */
        private final int[] ownBlock = new int[MOST_NODES];
        int length;
        boolean tooLong;

        void writeRoutine(Routine r, int placing) {
            length = 0;
            tooLong = false;
            numberOwnBlocks(r, placing);
            for (int b = 0; b < r.blocks && !tooLong; b++) {
                putHead(b);
                for (int n = r.firstOf[b]; n < r.firstOf[b + 1] && !tooLong; n++) {
                    putSetAhead(r, placing, n);
                    putNode(r, placing, n);
                }
            }
            for (int n = r.statements; n < r.nodes && !tooLong; n++) {
                if (ownBlock[n] >= 0) {
                    putHead(ownBlock[n]);
                    putSetAhead(r, placing, n);
                    putNode(r, placing, n);
                }
            }
        }

        private void numberOwnBlocks(Routine r, int placing) {
            int count = r.blocks;
            for (int n = r.statements; n < r.nodes; n++) {
                ownBlock[n] = r.facts.setAhead(placing, n) != 0 ? count++ : -1;
            }
        }

        private void putHead(int b) {
            putNumbered('b', b);
            putText(":\n");
        }

        private void putSetAhead(Routine r, int placing, int n) {
            int set = r.facts.setAhead(placing, n);
            for (int e = 0; set != 0 && e < r.sums.count && !tooLong; e++) {
                if ((set >>> e & 1) == 1) {
                    putText("  ");
                    putNumbered('t', e);
                    putText(" = ");
                    putSum(r.sums, e);
                    putText(";\n");
                }
            }
        }

        private void putNode(Routine r, int placing, int n) {
            putText("  ");
            switch (r.kind[n]) {
                case SUM_TO_NAME:
                    putGive(r, n);
                    if ((r.facts.taken(placing, n) >>> r.sumOf[n] & 1) == 1) {
                        putNumbered('t', r.sumOf[n]);
                    } else {
                        putSum(r.sums, r.sumOf[n]);
                    }
                    break;
                case OPERAND_TO_NAME:
                    putGive(r, n);
                    putOperand(r.operands[0][n]);
                    break;
                case TO_ROW:
                    putPlace(r.target[n], r.operands[0][n]);
                    putText(" = ");
                    putOperand(r.operands[1][n]);
                    break;
                case TELL:
                    putText("tell ");
                    putOperand(r.operands[0][n]);
                    break;
                case IF:
                    putIf(r, n);
                    break;
                case LEAVE:
                    putText("leave");
                    break;
                default:
                    putText("go ");
                    putNumbered('b', wayOf(r, n, 0));
            }
            putText(";\n");
        }

        private void putGive(Routine r, int n) {
            putOperand(NAME_CODE + r.target[n]);
            putText(" = ");
        }

        private void putIf(Routine r, int n) {
            putText("if ");
            putOperand(r.operands[0][n]);
            putText(" < ");
            putOperand(r.operands[1][n]);
            for (int w = 0; w < 2; w++) {
                put(' ');
                putNumbered('b', wayOf(r, n, w));
            }
        }

        /** The block, as it is written, to which a way of an end leads. */
        private int wayOf(Routine r, int n, int w) {
            int next = r.leads[w][n];
            return next >= r.statements && ownBlock[next] >= 0 ? ownBlock[next] : r.to[w][n];
        }

        private void putSum(Sums sums, int e) {
            if (!sums.has(e)) {
                return;
            }
            if (sums.sign[e] == 'r') {
                putPlace(sums.first[e], sums.second[e]);
                return;
            }
            putOperand(sums.first[e]);
            put(' ');
            put(sums.sign[e]);
            put(' ');
            putOperand(sums.second[e]);
        }

        private void putPlace(int row, int operand) {
            putNumbered('r', row);
            putText(" [ ");
            putOperand(operand);
            putText(" ]");
        }

        private void putOperand(int operand) {
            int number = operand;
            if (operand >= NAME_CODE + FIRST_T) {
                put('t');
                number = operand - NAME_CODE - FIRST_T;
            } else if (isName(operand)) {
                put('v');
                number = operand - NAME_CODE;
            } else if (operand < 0) {
                put('-');
                number = -operand;
            }
            putDigits(number);
        }

        private void putNumbered(int letter, int k) {
            put(letter);
            putDigits(k);
        }

        private void putDigits(int number) {
            int power = 1;
            for (int i = 0; i < 9 && number / power > 9; i++) {
                power *= 10;
            }
            for (int i = 0; i < 10 && power > 0; i++) {
                put('0' + number / power % 10);
                power /= 10;
            }
        }

        private void putText(String text) {
            for (int i = 0; i < text.length(); i++) {
                put(text.charAt(i));
            }
        }

        private void put(int b) {
            if (length >= bytes.length) {
                tooLong = true;
                return;
            }
            bytes[length++] = (byte) b;
        }
    }
}
