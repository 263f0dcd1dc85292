import java.util.Arrays;
import java.util.NoSuchElementException;

/** A desk that learns how a house lays out its texts, and lays and turns other texts by that. */
public final class HouseManner {
    public static final int NONE = -1;

    private static final int TEXTS = 12;
    private static final int HANDS = 4;
    private static final int MOST_BYTES = 800;
    private static final int MOST_OUT = 2000;
    private static final int MOST_TOKENS = 200;
    private static final int MOST_OPEN = 6;
    private static final int MOST_WORD = 16;
    private static final int MOST_DIGITS = 6;
    private static final int MOST_PRICE = 100;
    private static final int FED_AT_ONCE = 20;

    // A TOKEN's sort: these for WORDS and NUMBERS, the byte itself for a sign.
    private static final int NAME = 1;
    private static final int NUMBER = 2;
    private static final int KEY_IF = 3;
    private static final int KEY_ELSE = 4;
    private static final int KEY_WHILE = 5;
    private static final int KEY_CALL = 6;
    private static final int NO_TOKEN = 7;
    private static final int TEXT_END = 8;

    private static final int CANNOT_STAND = 1;
    private static final int TOO_MUCH = 2;

    // Whose a STATEMENT is, in the order of the TESTS 2 to 5.
    private static final int OF_NAME = 0;
    private static final int OF_CALL = 1;
    private static final int OF_IF = 2;
    private static final int OF_WHILE = 3;

    private static final int KINDS = 16;
    private static final int KIND_OTHERS = 15;
    private static final int NOTHING = 0;
    private static final int BLANK = 1;
    private static final int BREAK = 2;
    private static final int ALL_ELSE = 3;
    private static final int TOLD_CHOICES = 3;
    private static final int TESTS = 10;
    private static final int FIRST_OWNER_TEST = 2;
    private static final int FIRST_HAND_TEST = 6;

    private static final int WITH_LOW_LINES = 0;
    private static final int WITH_GREAT_LETTERS = 1;

    private final byte[] tape = new byte[MOST_BYTES];
    private int taped;
    private final Text[] texts = new Text[TEXTS];
    // What is read goes here first, so that a text with a FAULT leaves the old one as it is.
    private Text spare = new Text();
    private final Reader reader = new Reader();
    private int latestFault;
    private int latestPlace = NONE;
    private int testPrice = 5;
    private int exceptionPrice = 2;
    private final Tally[] tallies = new Tally[KINDS];
    private final Habit[] style = new Habit[KINDS];
    private boolean styled;
    private final Out out = new Out();
    // The TEXT that OUT was made of, as long as that TEXT is still the same.
    private int outOf = NONE;
    private final Maker maker = new Maker();
    private final int[] madeStarts = new int[MOST_TOKENS];
    private final int[] madeEnds = new int[MOST_TOKENS];

    public HouseManner() {
        for (int t = 0; t < TEXTS; t++) {
            texts[t] = new Text();
        }
        for (int kind = 0; kind < KINDS; kind++) {
            tallies[kind] = new Tally();
            style[kind] = new Habit();
        }
    }

    public int feed(int a, int b, int c, int d, int e) {
        if (taped + FED_AT_ONCE > MOST_BYTES) {
            return NONE;
        }
        tapeNumber(a);
        tapeNumber(b);
        tapeNumber(c);
        tapeNumber(d);
        tapeNumber(e);
        return taped;
    }

    private void tapeNumber(int number) {
        for (int shift = 24; shift >= 0; shift -= 8) {
            if (taped < tape.length) {
                tape[taped] = (byte) (number >> shift);
                taped++;
            }
        }
    }

    public int text(int t, int hand, int n) throws IllegalArgumentException {
        if (!isTextNumber(t) || hand < 0 || hand >= HANDS || n < 0 || n > taped) {
            throw new IllegalArgumentException();
        }
        taped = 0;
        latestFault = replaceText(t, hand, tape, n);
        latestPlace = reader.place;
        return latestFault;
    }

    /** Answers the FAULT of the bytes, with which the TEXT stays. */
    private int replaceText(int t, int hand, byte[] bytes, int n) {
        spare.start(bytes, n, hand);
        int fault = reader.read(spare);
        if (fault == 0) {
            spare.seeGaps();
            Text old = texts[t];
            texts[t] = spare;
            texts[t].there = true;
            spare = old;
            forgetOutOf(t);
        }
        return fault;
    }

    private void forgetOutOf(int t) {
        if (outOf == t) {
            outOf = NONE;
        }
    }

    public int fault(int what) throws NoSuchElementException {
        switch (what) {
            case 0: return latestFault;
            case 1: return latestPlace;
            default: throw new NoSuchElementException();
        }
    }

    public boolean drop(int t) throws IllegalArgumentException {
        if (!isTextNumber(t)) {
            throw new IllegalArgumentException();
        }
        boolean was = texts[t].there;
        texts[t].there = false;
        forgetOutOf(t);
        return was;
    }

    private static boolean isTextNumber(int t) {
        return t >= 0 && t < TEXTS;
    }

    private Text existing(int t) throws NoSuchElementException {
        if (!isTextNumber(t) || !texts[t].there) {
            throw new NoSuchElementException();
        }
        return texts[t];
    }

    public int about(int t, int what) throws NoSuchElementException {
        Text text = existing(t);
        switch (what) {
            case 0: return text.count;
            case 1: return text.length;
            case 2: return text.hand;
            case 3: return text.statements;
            default: throw new NoSuchElementException();
        }
    }

    public int gap(int t, int i, int what) throws NoSuchElementException {
        Text text = existing(t);
        if (i < 0 || i >= text.gapCount()) {
            throw new NoSuchElementException();
        }
        switch (what) {
            case 0: return text.kinds[i];
            case 1: return text.choices[i];
            case 2: return text.depths[i + 1];
            case 3: return text.testsAt(i);
            default: throw new NoSuchElementException();
        }
    }

    public int seen(int kind, int choice) throws IllegalArgumentException {
        if (kind < 0 || kind >= KINDS || choice < NONE || choice > ALL_ELSE) {
            throw new IllegalArgumentException();
        }
        int sum = 0;
        for (int t = 0; t < TEXTS; t++) {
            if (texts[t].there) {
                sum += texts[t].countGaps(kind, choice);
            }
        }
        return sum;
    }

    public int price(int what, int v) throws IllegalArgumentException {
        if (what < 0 || what > 1 || v < 0 || v > MOST_PRICE) {
            throw new IllegalArgumentException();
        }
        int old = what == 0 ? testPrice : exceptionPrice;
        if (what == 0) {
            testPrice = v;
        } else {
            exceptionPrice = v;
        }
        return old;
    }

    public int find() {
        tallyAllTexts();
        int sum = 0;
        for (int kind = 0; kind < KINDS; kind++) {
            tallies[kind].search(style[kind], testPrice, exceptionPrice);
            sum += style[kind].cost;
        }
        styled = true;
        return sum;
    }

    private void tallyAllTexts() {
        for (int kind = 0; kind < KINDS; kind++) {
            tallies[kind].clear();
        }
        for (int t = 0; t < TEXTS; t++) {
            if (texts[t].there) {
                tallyText(texts[t]);
            }
        }
    }

    private void tallyText(Text text) {
        int gaps = text.gapCount();
        for (int i = 0; i < gaps; i++) {
            int kind = text.kinds[i];
            tallies[kind].count(kind, text.testsAt(i), text.choices[i]);
        }
    }

    public int habit(int kind, int what) throws IllegalArgumentException {
        if (kind < 0 || kind >= KINDS || what < 0 || what > 7) {
            throw new IllegalArgumentException();
        }
        return styled ? style[kind].tell(what) : NONE;
    }

    public int exception(int t, int i) throws NoSuchElementException, IllegalArgumentException {
        Text text = existing(t);
        if (i < NONE) {
            throw new IllegalArgumentException();
        }
        if (!styled) {
            return NONE;
        }
        int gaps = text.gapCount();
        int count = 0;
        for (int g = 0; g < gaps; g++) {
            if (toldAt(text, g) != text.choices[g]) {
                if (count == i) {
                    return g;
                }
                count++;
            }
        }
        return i == NONE ? count : NONE;
    }

    /** What THE STYLE TELLS at a GAP. */
    private int toldAt(Text text, int gap) {
        int kind = text.kinds[gap];
        return style[kind].tells(kind, text.testsAt(gap));
    }

    /**
     * The CHOICE that a HABIT's CHOICE comes to. Two WORDS or NUMBERS side by side are just what
     * KIND 15 is: behind a ')' the grammar has only signs, and all other signs have KINDS.
     */
    private static int keptApart(int kind, int choice) {
        return kind == KIND_OTHERS && choice == NOTHING ? BLANK : choice;
    }

    public int lay(int t) throws NoSuchElementException {
        Text text = existing(t);
        clearOut();
        if (!styled) {
            return NONE;
        }
        for (int i = 0; i < text.count; i++) {
            if (i > 0) {
                out.putGap(toldAt(text, i - 1), text.depths[i]);
            }
            out.putAll(text.bytes, text.starts[i], text.ends[i]);
        }
        return endOut(t, MOST_OUT);
    }

    private void clearOut() {
        out.clear();
        outOf = NONE;
    }

    private int endOut(int t, int most) {
        if (out.spilled || out.length > most) {
            clearOut();
            return NONE;
        }
        outOf = t;
        return out.length;
    }

    public int turn(int t, int make) throws NoSuchElementException, IllegalArgumentException {
        Text text = existing(t);
        if (make != WITH_LOW_LINES && make != WITH_GREAT_LETTERS) {
            throw new IllegalArgumentException();
        }
        clearOut();
        int done = 0;
        for (int i = 0; i < text.count; i++) {
            if (text.signs[i] == NAME) {
                out.putAll(text.bytes, done, text.starts[i]);
                done = text.ends[i];
                if (!turnName(text, i, make)) {
                    clearOut();
                    return NONE;
                }
            }
        }
        out.putAll(text.bytes, done, text.length);
        return endOut(t, MOST_BYTES);
    }

    /**
     * Whether the NAME can be turned; OUT has it then. A NAME begins with a letter: it always
     * has PARTS, and none comes to begin with a digit.
     */
    private boolean turnName(Text text, int token, int make) {
        maker.make(text.bytes, text.starts[token], text.ends[token], make);
        if (maker.length > MOST_WORD || wordSort(maker.made, 0, maker.length) != NAME) {
            return false;
        }
        madeStarts[token] = out.length;
        out.putAll(maker.made, 0, maker.length);
        madeEnds[token] = out.length;
        return !meetsUnlikeName(text, token);
    }

    private boolean meetsUnlikeName(Text text, int token) {
        for (int i = 0; i < token; i++) {
            if (text.signs[i] == NAME
                    && same(out.row, madeStarts[i], madeEnds[i],
                            out.row, madeStarts[token], madeEnds[token])
                    && !text.sameToken(i, text, token)) {
                return true;
            }
        }
        return false;
    }

    public int house() {
        int lowLines = 0;
        int greatLetters = 0;
        for (int t = 0; t < TEXTS; t++) {
            if (texts[t].there) {
                lowLines += countMade(texts[t], WITH_LOW_LINES);
                greatLetters += countMade(texts[t], WITH_GREAT_LETTERS);
            }
        }
        if (lowLines == greatLetters) {
            return NONE;
        }
        return lowLines > greatLetters ? WITH_LOW_LINES : WITH_GREAT_LETTERS;
    }

    private int countMade(Text text, int make) {
        int count = 0;
        for (int i = 0; i < text.count; i++) {
            if (text.signs[i] == NAME) {
                int start = text.starts[i];
                int end = text.ends[i];
                maker.make(text.bytes, start, end, make);
                if (maker.parts > 1
                        && same(maker.made, 0, maker.length, text.bytes, start, end)) {
                    count++;
                }
            }
        }
        return count;
    }

    public int told(int k) throws NoSuchElementException {
        if (k == NONE) {
            return out.length;
        }
        if (k < 0 || k >= out.length) {
            throw new NoSuchElementException();
        }
        return out.row[k] & 255;
    }

    public boolean take(int t) throws NoSuchElementException {
        Text text = existing(t);
        if (outOf != t || out.length == 0 || out.length > MOST_BYTES) {
            return false;
        }
        return replaceText(t, text.hand, out.row, out.length) == 0;
    }

    public boolean alike(int t, int u) throws NoSuchElementException {
        Text one = existing(t);
        Text other = existing(u);
        if (one.count != other.count) {
            return false;
        }
        for (int i = 0; i < one.count; i++) {
            if (!one.sameToken(i, other, i)) {
                return false;
            }
        }
        return true;
    }

    private static boolean same(byte[] a, int aStart, int aEnd, byte[] b, int bStart, int bEnd) {
        int length = aEnd - aStart;
        if (bEnd - bStart != length || aStart < 0 || aEnd > a.length
                || bStart < 0 || bEnd > b.length) {
            return false;
        }
        for (int i = 0; i < length; i++) {
            if (a[aStart + i] != b[bStart + i]) {
                return false;
            }
        }
        return true;
    }

    /** The sort of a WORD: its KEYWORD's, or NAME. */
    private static int wordSort(byte[] bytes, int start, int end) {
        if (spells(bytes, start, end, "if")) {
            return KEY_IF;
        }
        if (spells(bytes, start, end, "else")) {
            return KEY_ELSE;
        }
        if (spells(bytes, start, end, "while")) {
            return KEY_WHILE;
        }
        return spells(bytes, start, end, "call") ? KEY_CALL : NAME;
    }

    private static boolean spells(byte[] bytes, int start, int end, String word) {
        int length = word.length();
        if (end - start != length || start < 0 || end > bytes.length) {
            return false;
        }
        for (int i = 0; i < length; i++) {
            if (bytes[start + i] != word.charAt(i)) {
                return false;
            }
        }
        return true;
    }

    private static boolean isGreat(int b) {
        return b >= 'A' && b <= 'Z';
    }

    private static boolean isSmall(int b) {
        return b >= 'a' && b <= 'z';
    }

    private static boolean isDigit(int b) {
        return b >= '0' && b <= '9';
    }

    private static boolean isOperator(int sign) {
        return sign == '+' || sign == '-' || sign == '<';
    }

    /** A text's bytes, its TOKENS, and what is seen at the GAP behind each of them. */
    private static final class Text {
        private final byte[] bytes = new byte[MOST_BYTES];
        private final int[] starts = new int[MOST_TOKENS];
        private final int[] ends = new int[MOST_TOKENS];
        private final int[] signs = new int[MOST_TOKENS];
        private final int[] depths = new int[MOST_TOKENS];
        private final int[] owners = new int[MOST_TOKENS];
        private final int[] kinds = new int[MOST_TOKENS];
        private final int[] choices = new int[MOST_TOKENS];
        private boolean there;
        private int length;
        private int hand;
        private int count;
        private int statements;

        void start(byte[] source, int n, int ofHand) {
            length = Math.max(0, Math.min(n, Math.min(source.length, bytes.length)));
            System.arraycopy(source, 0, bytes, 0, length);
            hand = ofHand;
            count = 0;
        }

        int byteAt(int place) {
            return place >= 0 && place < length ? bytes[place] : NONE;
        }

        boolean isFull() {
            return count >= MOST_TOKENS;
        }

        void addToken(int start, int end, int sign, int depth, int owner) {
            if (count < MOST_TOKENS) {
                starts[count] = start;
                ends[count] = end;
                signs[count] = sign;
                depths[count] = depth;
                owners[count] = owner;
                count++;
            }
        }

        int gapCount() {
            return count > 0 ? count - 1 : 0;
        }

        void seeGaps() {
            for (int i = 0; i + 1 < count; i++) {
                kinds[i] = kindBetween(signs[i], signs[i + 1]);
                choices[i] = choiceBetween(ends[i], starts[i + 1], depths[i + 1]);
            }
        }

        private static int kindBetween(int first, int second) {
            if (second == ';') {
                return 0;
            }
            if (first == ';') {
                return 1;
            }
            if (first == '{') {
                return 2;
            }
            if (second == '}') {
                return 3;
            }
            if (first == '}') {
                return 4;
            }
            if (second == '{') {
                return 5;
            }
            return kindInStatement(first, second);
        }

        private static int kindInStatement(int first, int second) {
            if (second == ',') {
                return 6;
            }
            if (first == ',') {
                return 7;
            }
            if (first == '(') {
                return 8;
            }
            if (second == ')') {
                return 9;
            }
            if (second == '(') {
                return 10;
            }
            if (second == '=') {
                return 11;
            }
            if (first == '=') {
                return 12;
            }
            if (isOperator(second)) {
                return 13;
            }
            return isOperator(first) ? 14 : KIND_OTHERS;
        }

        private int choiceBetween(int end, int start, int depth) {
            int wide = start - end;
            if (wide == 0) {
                return NOTHING;
            }
            if (wide == 1 && byteAt(end) == ' ') {
                return BLANK;
            }
            if (wide != 1 + 2 * depth || byteAt(end) != '\n') {
                return ALL_ELSE;
            }
            for (int place = end + 1; place < start; place++) {
                if (byteAt(place) != ' ') {
                    return ALL_ELSE;
                }
            }
            return BREAK;
        }

        int testsAt(int gap) {
            int depth = depths[gap + 1];
            int bits = 1 << (FIRST_OWNER_TEST + owners[gap]) | 1 << (FIRST_HAND_TEST + hand);
            if (depth == 0) {
                bits |= 1;
            } else if (depth >= 2) {
                bits |= 2;
            }
            return bits;
        }

        int countGaps(int kind, int choice) {
            int gaps = gapCount();
            int sum = 0;
            for (int i = 0; i < gaps; i++) {
                if (kinds[i] == kind && (choice == NONE || choices[i] == choice)) {
                    sum++;
                }
            }
            return sum;
        }

        boolean sameToken(int i, Text other, int j) {
            return same(bytes, starts[i], ends[i], other.bytes, other.starts[j], other.ends[j]);
        }
    }

    /** Parts a text into its TOKENS and holds each against the grammar, one after the other. */
    private static final class Reader {
        // What may come next.
        private static final int STATEMENT = 0;
        private static final int STATEMENT_OR_ELSE = 1;
        private static final int EQUALS = 2;
        private static final int CALLED_NAME = 3;
        private static final int CALL_OPENING = 4;
        private static final int PART_OR_CALL_END = 5;
        private static final int PART = 6;
        private static final int PART_ENDED = 7;
        private static final int SEMICOLON = 8;
        private static final int ELSE_OPENING = 9;

        // What stands open.
        private static final int GROUP = 0;
        private static final int ARGUMENTS = 1;
        private static final int IF_BLOCK = 2;
        private static final int ELSE_BLOCK = 3;
        private static final int WHILE_BLOCK = 4;

        private final int[] open = new int[MOST_OPEN];
        private int opened;
        private int blocks;
        private boolean tooDeep;
        private int next;
        private int owner;
        private int statements;
        private int place = NONE;
        private int start;
        private int end;
        private int sign;

        /** Answers the FAULT, or 0. */
        int read(Text text) {
            opened = 0;
            blocks = 0;
            tooDeep = false;
            next = STATEMENT;
            owner = OF_NAME;
            statements = 0;
            place = NONE;
            end = 0;
            for (int k = 0; k <= MOST_TOKENS; k++) {
                scan(text);
                if (sign == TEXT_END) {
                    text.statements = statements;
                    return mayEnd() ? 0 : faultAt(CANNOT_STAND, start);
                }
                if (!stands()) {
                    return faultAt(CANNOT_STAND, start);
                }
                if (isTooMuch(text)) {
                    return faultAt(TOO_MUCH, start);
                }
                text.addToken(start, end, sign, sign == '{' ? blocks - 1 : blocks, owner);
            }
            // Not reached: one TOKEN more than may be is too much.
            return faultAt(TOO_MUCH, start);
        }

        private int faultAt(int fault, int where) {
            place = where;
            return fault;
        }

        private boolean mayEnd() {
            return opened == 0 && (next == STATEMENT || next == STATEMENT_OR_ELSE);
        }

        private boolean isTooMuch(Text text) {
            int wide = end - start;
            return text.isFull() || tooDeep
                    || sign == NAME && wide > MOST_WORD
                    || sign == NUMBER && wide > MOST_DIGITS;
        }

        private void scan(Text text) {
            start = end;
            while (start < text.length && isBlank(text.byteAt(start))) {
                start++;
            }
            end = start;
            if (start >= text.length) {
                sign = TEXT_END;
                return;
            }
            int first = text.byteAt(start);
            if (isSmall(first) || isGreat(first)) {
                end = wordEnd(text);
                sign = wordSort(text.bytes, start, end);
            } else if (isDigit(first)) {
                end = digitsEnd(text);
                sign = NUMBER;
            } else {
                end = start + 1;
                sign = isSign(first) ? first : NO_TOKEN;
            }
        }

        private int wordEnd(Text text) {
            int at = start;
            while (at < text.length && isOfWord(text.byteAt(at))) {
                at++;
            }
            return at;
        }

        private int digitsEnd(Text text) {
            int at = start;
            while (at < text.length && isDigit(text.byteAt(at))) {
                at++;
            }
            return at;
        }

        private static boolean isBlank(int b) {
            return b == ' ' || b == '\n';
        }

        private static boolean isOfWord(int b) {
            return isSmall(b) || isGreat(b) || isDigit(b) || b == '_';
        }

        private static boolean isSign(int b) {
            return isOperator(b) || b == '=' || b == '(' || b == ')'
                    || b == '{' || b == '}' || b == ',' || b == ';';
        }

        /** Whether the TOKEN can stand here; what may come next is set by it. */
        private boolean stands() {
            switch (next) {
                case EQUALS: return expect(sign == '=', PART);
                case CALLED_NAME: return expect(sign == NAME, CALL_OPENING);
                case CALL_OPENING: return expect(sign == '(', PART_OR_CALL_END) && push(ARGUMENTS);
                case PART_OR_CALL_END: return sign == ')' ? endBracket() : startPart();
                case PART: return startPart();
                case PART_ENDED: return goOnBehindPart();
                case SEMICOLON: return expect(sign == ';', STATEMENT);
                case ELSE_OPENING: return sign == '{' && startBlock(ELSE_BLOCK);
                default: return startStatement();
            }
        }

        private boolean expect(boolean holds, int then) {
            if (holds) {
                next = then;
            }
            return holds;
        }

        private boolean startStatement() {
            switch (sign) {
                case NAME: return ownStatement(OF_NAME, EQUALS);
                case KEY_CALL: return ownStatement(OF_CALL, CALLED_NAME);
                case KEY_IF: return ownStatement(OF_IF, PART);
                case KEY_WHILE: return ownStatement(OF_WHILE, PART);
                case KEY_ELSE: return expect(next == STATEMENT_OR_ELSE, ELSE_OPENING);
                case '}': return endBlock();
                default: return false;
            }
        }

        private boolean ownStatement(int of, int then) {
            owner = of;
            statements++;
            next = then;
            return true;
        }

        private boolean startPart() {
            if (sign == '(') {
                next = PART;
                return push(GROUP);
            }
            return expect(sign == NAME || sign == NUMBER, PART_ENDED);
        }

        private boolean goOnBehindPart() {
            if (isOperator(sign)) {
                next = PART;
                return true;
            }
            if (innermost() == GROUP) {
                return sign == ')' && endBracket();
            }
            if (innermost() == ARGUMENTS) {
                return sign == ')' ? endBracket() : expect(sign == ',', PART);
            }
            if (owner == OF_NAME) {
                return expect(sign == ';', STATEMENT);
            }
            return sign == '{' && startBlock(owner == OF_IF ? IF_BLOCK : WHILE_BLOCK);
        }

        private boolean startBlock(int sort) {
            next = STATEMENT;
            blocks++;
            return push(sort);
        }

        private int innermost() {
            return opened > 0 && opened <= open.length ? open[opened - 1] : NONE;
        }

        /** Always true: one more than may stand open can stand there, but is too much. */
        private boolean push(int sort) {
            if (opened < open.length) {
                open[opened] = sort;
                opened++;
            } else {
                tooDeep = true;
            }
            return true;
        }

        private boolean endBracket() {
            next = innermost() == ARGUMENTS ? SEMICOLON : PART_ENDED;
            opened--;
            return true;
        }

        private boolean endBlock() {
            int sort = innermost();
            if (sort == NONE) {
                return false;
            }
            opened--;
            blocks--;
            owner = sort == WHILE_BLOCK ? OF_WHILE : OF_IF;
            next = sort == IF_BLOCK ? STATEMENT_OR_ELSE : STATEMENT;
            return true;
        }
    }

    /** How one KIND of GAP is laid. */
    private static final class Habit {
        private int tests;
        private int first = NONE;
        private int firstChoice = NONE;
        private int second = NONE;
        private int secondChoice = NONE;
        private int last;
        private int cost;
        private int exceptions;

        void setFirst(int test, int choice) {
            first = test;
            firstChoice = choice;
        }

        void setSecond(int test, int choice) {
            second = test;
            secondChoice = choice;
        }

        void setRest(int ofTests, int lastChoice, int itsCost, int itsExceptions) {
            tests = ofTests;
            last = lastChoice;
            cost = itsCost;
            exceptions = itsExceptions;
        }

        int tells(int kind, int bits) {
            int choice = last;
            if (tests > 0 && (bits >> first & 1) == 1) {
                choice = firstChoice;
            } else if (tests > 1 && (bits >> second & 1) == 1) {
                choice = secondChoice;
            }
            return keptApart(kind, choice);
        }

        int tell(int what) {
            switch (what) {
                case 0: return tests;
                case 1: return first;
                case 2: return firstChoice;
                case 3: return second;
                case 4: return secondChoice;
                case 5: return last;
                case 6: return cost;
                default: return exceptions;
            }
        }
    }

    /**
     * For one KIND, how many GAPS each CHOICE would tell wrong: of all, and of those where two
     * given TESTS hold (or one, taken twice). From these the GAPS that each place of a HABIT's
     * row decides are had by adding and taking away, without looking at the GAPS again.
     */
    private static final class Tally {
        private final int[] wrongOfAll = new int[TOLD_CHOICES];
        private final int[] wrongOfTwo = new int[TESTS * TESTS * TOLD_CHOICES];
        private int testPrice;
        private int exceptionPrice;

        void clear() {
            Arrays.fill(wrongOfAll, 0);
            Arrays.fill(wrongOfTwo, 0);
        }

        void count(int kind, int bits, int choice) {
            for (int c = 0; c < TOLD_CHOICES; c++) {
                if (keptApart(kind, c) != choice) {
                    wrongOfAll[c]++;
                    countWrong(bits, c);
                }
            }
        }

        private void countWrong(int bits, int choice) {
            for (int t = 0; t < TESTS; t++) {
                if ((bits >> t & 1) == 1) {
                    for (int u = 0; u < TESTS; u++) {
                        if ((bits >> u & 1) == 1) {
                            wrongOfTwo[(t * TESTS + u) * TOLD_CHOICES + choice]++;
                        }
                    }
                }
            }
        }

        /** Where both TESTS hold; one that a row doesn't have (NONE) holds nowhere. */
        private int wrongWhere(int t, int u, int choice) {
            if (t < 0 || t >= TESTS || u < 0 || u >= TESTS) {
                return 0;
            }
            return wrongOfTwo[(t * TESTS + u) * TOLD_CHOICES + choice];
        }

        private int wrongByFirst(int t, int choice) {
            return wrongWhere(t, t, choice);
        }

        /** The second TEST decides where it holds and the first one doesn't. */
        private int wrongBySecond(int t, int u, int choice) {
            return wrongWhere(u, u, choice) - wrongWhere(t, u, choice);
        }

        private int wrongByLast(int t, int u, int choice) {
            return wrongOfAll[choice] - wrongByFirst(t, choice) - wrongBySecond(t, u, choice);
        }

        /**
         * Rows of fewer TESTS are tried first, then those that are first in order; none whose
         * TESTS alone cost as much as the best one.
         */
        void search(Habit best, int priceOfTest, int priceOfException) {
            testPrice = priceOfTest;
            exceptionPrice = priceOfException;
            weigh(best, 0, NONE, NONE);
            for (int t = 0; t < TESTS && testPrice < best.cost; t++) {
                weigh(best, 1, t, NONE);
            }
            for (int t = 0; t < TESTS && 2 * testPrice < best.cost; t++) {
                weighTwo(best, t);
            }
        }

        private void weighTwo(Habit best, int t) {
            for (int u = 0; u < TESTS; u++) {
                if (u != t) {
                    weigh(best, 2, t, u);
                }
            }
        }

        /**
         * Each place of the row decides GAPS of its own, so its CHOICE is found for itself; what
         * the first TEST's is doesn't hang on the second one, so the rows come in order.
         */
        private void weigh(Habit best, int tests, int t, int u) {
            int firstChoice = 0;
            int secondChoice = 0;
            int last = 0;
            for (int c = 1; c < TOLD_CHOICES; c++) {
                if (isCheaper(wrongByFirst(t, c), wrongByFirst(t, firstChoice))) {
                    firstChoice = c;
                }
                if (isCheaper(wrongBySecond(t, u, c), wrongBySecond(t, u, secondChoice))) {
                    secondChoice = c;
                }
                if (isCheaper(wrongByLast(t, u, c), wrongByLast(t, u, last))) {
                    last = c;
                }
            }
            int exceptions = wrongByFirst(t, firstChoice) + wrongBySecond(t, u, secondChoice)
                    + wrongByLast(t, u, last);
            int cost = tests * testPrice + exceptions * exceptionPrice;
            if (tests == 0 || cost < best.cost) {
                best.setFirst(t, tests > 0 ? firstChoice : NONE);
                best.setSecond(u, tests > 1 ? secondChoice : NONE);
                best.setRest(tests, last, cost, exceptions);
            }
        }

        /** At the PRICE of 0 no CHOICE is cheaper than another, however many it tells wrong. */
        private boolean isCheaper(int wrongs, int thanWrongs) {
            return exceptionPrice > 0 && wrongs < thanWrongs;
        }
    }

    /** Makes a NAME anew of its PARTS. */
    private static final class Maker {
        private final byte[] made = new byte[2 * MOST_WORD];
        private int length;
        private int parts;

        void make(byte[] bytes, int start, int end, int make) {
            length = 0;
            parts = 0;
            boolean parted = true;
            for (int i = Math.max(0, start); i < end && i < bytes.length; i++) {
                int b = bytes[i];
                if (b == '_') {
                    parted = true;
                } else if (parted || isGreat(b)) {
                    startPart(b, make);
                    parted = false;
                } else {
                    put(b);
                }
            }
        }

        private void startPart(int b, int make) {
            parts++;
            int small = isGreat(b) ? b - 'A' + 'a' : b;
            if (parts == 1) {
                put(small);
            } else if (make == WITH_LOW_LINES) {
                put('_');
                put(small);
            } else {
                put(isSmall(small) ? small - 'a' + 'A' : small);
            }
        }

        private void put(int b) {
            if (length < made.length) {
                made[length] = (byte) b;
                length++;
            }
        }
    }

    /** The bytes that lay() or turn() made. */
    private static final class Out {
        private final byte[] row = new byte[MOST_OUT];
        private int length;
        private boolean spilled;

        void clear() {
            length = 0;
            spilled = false;
        }

        void put(int b) {
            if (length < row.length) {
                row[length] = (byte) b;
                length++;
            } else {
                spilled = true;
            }
        }

        void putAll(byte[] bytes, int start, int end) {
            for (int i = Math.max(0, start); i < end && i < bytes.length; i++) {
                put(bytes[i]);
            }
        }

        void putGap(int choice, int depth) {
            if (choice == BLANK) {
                put(' ');
            } else if (choice == BREAK) {
                put('\n');
                for (int i = 0; i < 2 * depth; i++) {
                    put(' ');
                }
            }
        }
    }
}
