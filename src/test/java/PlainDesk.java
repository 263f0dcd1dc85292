import java.util.ArrayDeque;
import java.util.ArrayList;
import java.util.Arrays;
import java.util.Deque;
import java.util.HashMap;
import java.util.List;
import java.util.Map;
import java.util.NoSuchElementException;

/**
 * The document once more, slowly and by other means: a descending parser, all HABITS tried one
 * by one at all GAPS, NAMES parted by patterns. The class is held against it in PlainDeskTest.
 */
final class PlainDesk {
    private static final List<String> KEYWORDS = List.of("if", "else", "while", "call");

    static final class Fault extends RuntimeException {
        private static final long serialVersionUID = 1;
        final int code;
        final int place;

        Fault(int code, int place) {
            this.code = code;
            this.place = place;
        }
    }

    static final class Token {
        String word;
        int at;
        int depth;
        char owner;

        boolean isName() {
            return Character.isLetter(word.charAt(0)) && !KEYWORDS.contains(word);
        }

        boolean isWordOrNumber() {
            return Character.isLetterOrDigit(word.charAt(0));
        }
    }

    static final class Gap {
        int kind;
        int choice;
        int depth;
        int bits;
        boolean betweenWords;
    }

    static final class Read {
        String all;
        int hand;
        int statements;
        List<Token> tokens = new ArrayList<>();
        List<Gap> gaps = new ArrayList<>();
    }

    /** A descending parser over the text; each level gives back where it stands by its fields. */
    private static final class Parser {
        private final String all;
        private final Read into = new Read();
        private final Deque<Character> owners = new ArrayDeque<>();
        private int at;
        private int open;
        private int blocks;

        Parser(String all) {
            this.all = all;
            into.all = all;
        }

        Read parse() {
            while (!peek().isEmpty()) {
                statement();
            }
            return into;
        }

        private String peek() {
            while (at < all.length() && (all.charAt(at) == ' ' || all.charAt(at) == '\n')) {
                at++;
            }
            String rest = all.substring(at);
            String word = rest.replaceFirst("(?s)^([A-Za-z][A-Za-z0-9_]*|[0-9]+|.).*$", "$1");
            return word;
        }

        private boolean isName(String word) {
            return word.matches("[A-Za-z].*") && !KEYWORDS.contains(word);
        }

        private void take() {
            String word = peek();
            boolean opens = word.equals("{") || word.equals("(");
            boolean tooLong = word.matches("[A-Za-z].{16,}") || word.matches("[0-9]{7,}");
            if (tooLong || into.tokens.size() == 200 || opens && open == 6) {
                throw new Fault(2, at);
            }
            if (word.equals("}")) {
                blocks--;
            }
            Token token = new Token();
            token.word = word;
            token.at = at;
            token.depth = blocks;
            token.owner = owners.peek();
            into.tokens.add(token);
            if (word.equals("{")) {
                blocks++;
            }
            open += opens ? 1 : word.equals("}") || word.equals(")") ? -1 : 0;
            at += word.length();
        }

        private void must(boolean can) {
            if (!can) {
                peek();
                throw new Fault(1, at);
            }
            take();
        }

        private void must(String word) {
            must(peek().equals(word));
        }

        private void statement() {
            String word = peek();
            boolean begins = isName(word) || List.of("call", "if", "while").contains(word);
            if (!begins) {
                throw new Fault(1, at);
            }
            owners.push(isName(word) ? 'n' : word.charAt(0));
            into.statements++;
            take();
            switch (owners.peek()) {
                case 'n':
                    must("=");
                    expression();
                    must(";");
                    break;
                case 'c':
                    called();
                    break;
                case 'i':
                    expression();
                    block();
                    if (peek().equals("else")) {
                        take();
                        block();
                    }
                    break;
                default:
                    expression();
                    block();
            }
            owners.pop();
        }

        private void called() {
            must(isName(peek()));
            must("(");
            if (!peek().equals(")")) {
                expression();
                while (peek().equals(",")) {
                    take();
                    expression();
                }
            }
            must(")");
            must(";");
        }

        private void block() {
            must("{");
            while (!peek().equals("}")) {
                statement();
            }
            take();
        }

        private void expression() {
            part();
            while (List.of("+", "-", "<").contains(peek())) {
                take();
                part();
            }
        }

        private void part() {
            if (peek().equals("(")) {
                take();
                expression();
                must(")");
            } else {
                must(isName(peek()) || peek().matches("[0-9]+"));
            }
        }
    }

    private static void seeGaps(Read read) {
        read.gaps.clear();
        for (int i = 0; i + 1 < read.tokens.size(); i++) {
            Token a = read.tokens.get(i);
            Token b = read.tokens.get(i + 1);
            Gap gap = new Gap();
            gap.kind = kind(a.word, b.word);
            gap.depth = b.depth;
            String between = read.all.substring(a.at + a.word.length(), b.at);
            gap.choice = between.isEmpty() ? 0 : between.equals(" ") ? 1
                    : between.equals("\n" + "  ".repeat(b.depth)) ? 2 : 3;
            gap.bits = (b.depth == 0 ? 1 : 0) | (b.depth > 1 ? 2 : 0)
                    | 4 << "nciw".indexOf(a.owner) | 64 << read.hand;
            gap.betweenWords = a.isWordOrNumber() && b.isWordOrNumber();
            read.gaps.add(gap);
        }
    }

    private static int kind(String a, String b) {
        String operators = "+-<";
        boolean[] holds = {b.equals(";"), a.equals(";"), a.equals("{"), b.equals("}"), a.equals("}"),
            b.equals("{"), b.equals(","), a.equals(","), a.equals("("), b.equals(")"), b.equals("("),
            b.equals("="), a.equals("="), operators.contains(b), operators.contains(a), true};
        int kind = 0;
        while (!holds[kind]) {
            kind++;
        }
        return kind;
    }

    private static int tells(int[] row, Gap gap) {
        int choice = row[row.length - 1];
        for (int i = row.length - 3; i >= 0; i -= 2) {
            if ((gap.bits >> row[i] & 1) == 1) {
                choice = row[i + 1];
            }
        }
        return choice == 0 && gap.betweenWords ? 1 : choice;
    }

    private final StringBuilder tape = new StringBuilder();
    private final Read[] texts = new Read[12];
    private final int[] prices = {5, 2};
    private int faultCode;
    private int faultPlace = -1;
    private int[][] style;
    private int[] costs;
    private int[] wrongs;
    private String out = "";
    private Read outOf;

    private Read existing(int t) {
        if (t < 0 || t > 11 || texts[t] == null) {
            throw new NoSuchElementException();
        }
        return texts[t];
    }

    private static void legal(boolean holds) {
        if (!holds) {
            throw new IllegalArgumentException();
        }
    }

    private static void there(boolean holds) {
        if (!holds) {
            throw new NoSuchElementException();
        }
    }

    int feed(int[] five) {
        if (tape.length() > 780) {
            return -1;
        }
        for (int number : five) {
            for (int i = 3; i >= 0; i--) {
                tape.append((char) (number >>> 8 * i & 255));
            }
        }
        return tape.length();
    }

    int text(int t, int hand, int n) {
        legal(t >= 0 && t <= 11 && hand >= 0 && hand <= 3 && n >= 0 && n <= tape.length());
        String all = tape.substring(0, n);
        tape.setLength(0);
        faultCode = 0;
        faultPlace = -1;
        try {
            texts[t] = read(all, hand);
        } catch (Fault fault) {
            faultCode = fault.code;
            faultPlace = fault.place;
        }
        return faultCode;
    }

    private static Read read(String all, int hand) {
        Read read = new Parser(all).parse();
        read.hand = hand;
        seeGaps(read);
        return read;
    }

    int fault(int what) {
        there(what == 0 || what == 1);
        return what == 0 ? faultCode : faultPlace;
    }

    boolean drop(int t) {
        legal(t >= 0 && t <= 11);
        boolean was = texts[t] != null;
        texts[t] = null;
        return was;
    }

    int about(int t, int what) {
        Read read = existing(t);
        there(what >= 0 && what <= 3);
        return new int[] {read.tokens.size(), read.all.length(), read.hand, read.statements}[what];
    }

    int gap(int t, int i, int what) {
        Read read = existing(t);
        there(i >= 0 && i < read.gaps.size() && what >= 0 && what <= 3);
        Gap gap = read.gaps.get(i);
        return new int[] {gap.kind, gap.choice, gap.depth, gap.bits}[what];
    }

    private List<Gap> gapsOf(int kind) {
        List<Gap> gaps = new ArrayList<>();
        for (Read read : texts) {
            if (read != null) {
                read.gaps.stream().filter(gap -> gap.kind == kind).forEach(gaps::add);
            }
        }
        return gaps;
    }

    int seen(int kind, int choice) {
        legal(kind >= 0 && kind <= 15 && choice >= -1 && choice <= 3);
        return (int) gapsOf(kind).stream().filter(gap -> choice == -1 || gap.choice == choice).count();
    }

    int price(int what, int v) {
        legal(what >= 0 && what <= 1 && v >= 0 && v <= 100);
        int old = prices[what];
        prices[what] = v;
        return old;
    }

    private static List<int[]> allRows() {
        List<int[]> rows = new ArrayList<>();
        for (int last = 0; last < 3; last++) {
            rows.add(new int[] {last});
            for (int one = 0; one < 30; one++) {
                rows.add(new int[] {one / 3, one % 3, last});
                for (int two = 0; two < 30; two++) {
                    if (one / 3 != two / 3) {
                        rows.add(new int[] {one / 3, one % 3, two / 3, two % 3, last});
                    }
                }
            }
        }
        rows.sort((a, b) -> a.length != b.length ? a.length - b.length : Arrays.compare(a, b));
        return rows;
    }

    private static final List<int[]> ROWS = allRows();

    int find() {
        style = new int[16][];
        costs = new int[16];
        wrongs = new int[16];
        int sum = 0;
        for (int kind = 0; kind < 16; kind++) {
            List<Gap> gaps = gapsOf(kind);
            for (int[] row : ROWS) {
                int wrong = 0;
                for (Gap gap : gaps) {
                    wrong += tells(row, gap) == gap.choice ? 0 : 1;
                }
                int cost = row.length / 2 * prices[0] + wrong * prices[1];
                if (style[kind] == null || cost < costs[kind]) {
                    style[kind] = row;
                    costs[kind] = cost;
                    wrongs[kind] = wrong;
                }
            }
            sum += costs[kind];
        }
        return sum;
    }

    int habit(int kind, int what) {
        legal(kind >= 0 && kind <= 15 && what >= 0 && what <= 7);
        if (style == null) {
            return -1;
        }
        int[] row = style[kind];
        switch (what) {
            case 0: return row.length / 2;
            case 5: return row[row.length - 1];
            case 6: return costs[kind];
            case 7: return wrongs[kind];
            default: return what < row.length ? row[what - 1] : -1;
        }
    }

    int exception(int t, int i) {
        Read read = existing(t);
        legal(i >= -1);
        if (style == null) {
            return -1;
        }
        List<Integer> found = new ArrayList<>();
        for (int g = 0; g < read.gaps.size(); g++) {
            Gap gap = read.gaps.get(g);
            if (tells(style[gap.kind], gap) != gap.choice) {
                found.add(g);
            }
        }
        return i == -1 ? found.size() : i < found.size() ? found.get(i) : -1;
    }

    private int setOut(String told, Read of) {
        out = told == null ? "" : told;
        outOf = told == null ? null : of;
        return told == null ? -1 : told.length();
    }

    int lay(int t) {
        Read read = existing(t);
        if (style == null) {
            return setOut(null, read);
        }
        StringBuilder laid = new StringBuilder();
        for (int i = 0; i < read.tokens.size(); i++) {
            if (i > 0) {
                Gap gap = read.gaps.get(i - 1);
                int choice = tells(style[gap.kind], gap);
                laid.append(choice == 0 ? "" : choice == 1 ? " " : "\n" + "  ".repeat(gap.depth));
            }
            laid.append(read.tokens.get(i).word);
        }
        return setOut(laid.length() > 2000 ? null : laid.toString(), read);
    }

    private static List<String> parts(String name) {
        List<String> parts = new ArrayList<>();
        for (String part : name.replaceAll("([A-Z])", "_$1").split("_+")) {
            if (!part.isEmpty()) {
                parts.add(part.toLowerCase());
            }
        }
        return parts;
    }

    private static String made(String name, int make) {
        List<String> parts = parts(name);
        if (make == 0) {
            return String.join("_", parts);
        }
        StringBuilder made = new StringBuilder(parts.get(0));
        for (String part : parts.subList(1, parts.size())) {
            made.append(part.substring(0, 1).toUpperCase()).append(part.substring(1));
        }
        return made.toString();
    }

    int turn(int t, int make) {
        Read read = existing(t);
        legal(make == 0 || make == 1);
        StringBuilder turned = new StringBuilder(read.all);
        Map<String, String> from = new HashMap<>();
        for (int i = read.tokens.size() - 1; i >= 0; i--) {
            Token token = read.tokens.get(i);
            if (token.isName()) {
                String made = made(token.word, make);
                String before = from.put(made, token.word);
                if (made.length() > 16 || KEYWORDS.contains(made)
                        || before != null && !before.equals(token.word)) {
                    return setOut(null, read);
                }
                turned.replace(token.at, token.at + token.word.length(), made);
            }
        }
        return setOut(turned.length() > 800 ? null : turned.toString(), read);
    }

    int house() {
        int more = 0;
        for (Read read : texts) {
            for (Token token : read == null ? new ArrayList<Token>() : read.tokens) {
                if (token.isName() && parts(token.word).size() > 1) {
                    more += made(token.word, 0).equals(token.word) ? 1 : 0;
                    more -= made(token.word, 1).equals(token.word) ? 1 : 0;
                }
            }
        }
        return more == 0 ? -1 : more > 0 ? 0 : 1;
    }

    int told(int k) {
        there(k >= -1 && k < out.length());
        return k == -1 ? out.length() : out.charAt(k);
    }

    boolean take(int t) {
        Read read = existing(t);
        if (out.isEmpty() || out.length() > 800 || outOf != read) {
            return false;
        }
        texts[t] = read(out, read.hand);
        return true;
    }

    boolean alike(int t, int u) {
        return words(existing(t)).equals(words(existing(u)));
    }

    private static List<String> words(Read read) {
        List<String> words = new ArrayList<>();
        for (Token token : read.tokens) {
            words.add(token.word);
        }
        return words;
    }
}
