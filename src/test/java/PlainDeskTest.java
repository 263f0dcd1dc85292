import java.nio.charset.StandardCharsets;
import java.util.Random;

/** Long runs of calls by the dice (the same each time), each held against PlainDesk's answer. */
public final class PlainDeskTest {
    private static final int RUNS = 400;
    private static final Checks CHECKS = new Checks();

    public static void main(String[] args) {
        int runs = args.length > 0 ? Integer.parseInt(args[0]) : RUNS;
        long seed = args.length > 1 ? Long.parseLong(args[1]) : 1;
        for (int run = 0; run < runs; run++) {
            new PlainDeskTest(new Random(seed * 1000003 + run), run).run();
        }
        CHECKS.end();
    }

    private final Random dice;
    private final int run;
    private final HouseManner desk = new HouseManner();
    private final PlainDesk plain = new PlainDesk();
    private final int wildness;
    private int calls;

    private PlainDeskTest(Random dice, int run) {
        this.dice = dice;
        this.run = run;
        this.wildness = dice.nextInt(3);
    }

    private void run() {
        for (int t = 0; t < 1 + dice.nextInt(5); t++) {
            writeText(t, dice.nextInt(4));
        }
        int most = 120 + dice.nextInt(380);
        for (int i = 0; i < 500 && calls < most; i++) {
            anyCall();
        }
    }

    private void both(String call, Checks.Call of, Checks.Call want) {
        calls++;
        CHECKS.due("run " + run + ", call " + calls + ": " + call, Checks.answerOf(want), of);
    }

    private int number(int below) {
        return dice.nextInt(20) == 0 ? dice.nextInt(5) == 0 ? dice.nextInt() : dice.nextInt(below + 6) - 3
                : dice.nextInt(below);
    }

    private void writeText(int t, int hand) {
        String all = new Writer(dice, wildness).text();
        byte[] bytes = all.getBytes(StandardCharsets.ISO_8859_1);
        int n = Math.min(bytes.length, 800);
        for (int from = 0; from < n; from += 20) {
            int[] five = new int[5];
            for (int i = 0; i < 20; i++) {
                five[i / 4] = five[i / 4] << 8 | (from + i < bytes.length ? bytes[from + i] & 255 : 32);
            }
            feed(five);
        }
        both("text(" + t + ", " + hand + ", " + n + ") of " + all,
                () -> desk.text(t, hand, n), () -> plain.text(t, hand, n));
        both("fault(0)", () -> desk.fault(0), () -> plain.fault(0));
        both("fault(1) of " + all, () -> desk.fault(1), () -> plain.fault(1));
    }

    private void feed(int[] five) {
        both("feed", () -> desk.feed(five[0], five[1], five[2], five[3], five[4]), () -> plain.feed(five));
    }

    private void anyCall() {
        int t = number(dice.nextInt(4) == 0 ? 12 : 5);
        int u = number(5);
        int sort = dice.nextInt(26);
        switch (sort) {
            case 0: case 1: writeText(dice.nextInt(6), dice.nextInt(4)); break;
            case 2: wrongText(t); break;
            case 3: both("fault", () -> desk.fault(u), () -> plain.fault(u)); break;
            case 4: if (dice.nextInt(3) == 0) { drop(t); } break;
            case 5: both("about(" + t + ", " + u + ")", () -> desk.about(t, u), () -> plain.about(t, u)); break;
            case 6: case 7: case 8: gap(t); break;
            case 9: seen(); break;
            case 10: case 11: price(); break;
            case 12: both("find()", () -> desk.find(), () -> plain.find()); style(); break;
            case 13: habit(); break;
            case 14: case 15: exception(t); break;
            case 16: case 17: both("lay(" + t + ")", () -> desk.lay(t), () -> plain.lay(t)); out(); break;
            case 18: case 19: turn(t); break;
            case 20: both("house()", () -> desk.house(), () -> plain.house()); break;
            case 21: told(); break;
            case 22: case 23: both("take(" + t + ")", () -> desk.take(t), () -> plain.take(t)); break;
            case 24: both("alike", () -> desk.alike(t, u), () -> plain.alike(t, u)); break;
            default: layAndTake(t);
        }
    }

    private void wrongText(int t) {
        int hand = number(4);
        int n = dice.nextInt(30) - 5;
        both("text(" + t + ", " + hand + ", " + n + ")", () -> desk.text(t, hand, n), () -> plain.text(t, hand, n));
    }

    private void drop(int t) {
        both("drop(" + t + ")", () -> desk.drop(t), () -> plain.drop(t));
    }

    private void gap(int t) {
        int i = number(60);
        int what = number(4);
        both("gap(" + t + ", " + i + ", " + what + ")", () -> desk.gap(t, i, what), () -> plain.gap(t, i, what));
    }

    private void seen() {
        int kind = number(16);
        int choice = number(5) - 1;
        both("seen(" + kind + ", " + choice + ")", () -> desk.seen(kind, choice), () -> plain.seen(kind, choice));
    }

    private void price() {
        int what = number(2);
        int v = number(dice.nextInt(3) == 0 ? 101 : 6);
        both("price(" + what + ", " + v + ")", () -> desk.price(what, v), () -> plain.price(what, v));
    }

    private void habit() {
        int kind = number(16);
        int what = number(8);
        both("habit(" + kind + ", " + what + ")", () -> desk.habit(kind, what), () -> plain.habit(kind, what));
    }

    /** All of THE STYLE at once, which the document's 512 calls would soon be used up by. */
    private void style() {
        for (int i = 0; i < 16; i++) {
            int kind = i;
            StringBuilder got = new StringBuilder();
            StringBuilder want = new StringBuilder();
            for (int what = 0; what < 8; what++) {
                got.append(desk.habit(kind, what)).append(' ');
                want.append(plain.habit(kind, what)).append(' ');
            }
            both("habit of kind " + kind, got::toString, want::toString);
        }
    }

    private void exception(int t) {
        int i = number(6) - 1;
        both("exception(" + t + ", " + i + ")", () -> desk.exception(t, i), () -> plain.exception(t, i));
    }

    private void turn(int t) {
        int make = number(2);
        both("turn(" + t + ", " + make + ")", () -> desk.turn(t, make), () -> plain.turn(t, make));
        out();
    }

    private void out() {
        StringBuilder want = new StringBuilder();
        for (int k = 0; k < plain.told(-1); k++) {
            want.append((char) plain.told(k));
        }
        both("OUT", () -> Checks.out(desk), want::toString);
    }

    private void told() {
        int k = number(40) - 1;
        both("told(" + k + ")", () -> desk.told(k), () -> plain.told(k));
    }

    private void layAndTake(int t) {
        both("lay(" + t + ")", () -> desk.lay(t), () -> plain.lay(t));
        both("take(" + t + ")", () -> desk.take(t), () -> plain.take(t));
        both("about(" + t + ", 1)", () -> desk.about(t, 1), () -> plain.about(t, 1));
        both("exception(" + t + ", -1)", () -> desk.exception(t, -1), () -> plain.exception(t, -1));
        both("take(" + t + ")", () -> desk.take(t), () -> plain.take(t));
    }

    /** Writes texts of the grammar with blanks by the dice, and spoils some of them. */
    private static final class Writer {
        private static final String[] NAMES = {"a", "b", "rowOf", "row_of", "max_value", "maxValue", "x1",
            "row_2", "row2", "A", "If", "else_", "aB__cD", "z_", "aBCDEFGHI", "abcdefghijklmnop", "lastRow"};
        private static final String[] BLANKS = {"", " ", "\n", "\n  ", "\n    ", "  ", "\n\n", " \n"};
        private static final String[] SPOILS = {";", "{", "}", "(", ")", ",", "=", "+", "a", "1", "else",
            "if ", "_", "\t", "\u00ff", "\u00e9", "1234567", "abcdefghijklmnopqr", ""};

        private final Random dice;
        private final int wildness;
        private final StringBuilder all = new StringBuilder();
        private final int deep;
        private final int names;

        Writer(Random dice, int wildness) {
            this.dice = dice;
            this.wildness = wildness;
            this.deep = 1 + dice.nextInt(dice.nextInt(4) == 0 ? 8 : 4);
            this.names = 2 + dice.nextInt(dice.nextInt(3) == 0 ? NAMES.length - 2 : 4);
        }

        String text() {
            int statements = dice.nextInt(dice.nextInt(8) == 0 ? 60 : 8);
            for (int i = 0; i < statements && all.length() < 1000; i++) {
                statement(0);
            }
            blanks(0);
            if (dice.nextInt(4) == 0 && all.length() > 0) {
                spoil();
            }
            return all.toString();
        }

        private void spoil() {
            int at = dice.nextInt(all.length());
            int until = Math.min(all.length(), at + dice.nextInt(3));
            all.replace(at, until, SPOILS[dice.nextInt(SPOILS.length)]);
            if (dice.nextInt(4) == 0) {
                all.setLength(dice.nextInt(all.length() + 1));
            }
        }

        private void blanks(int depth) {
            if (dice.nextInt(10) < 2 * wildness) {
                all.append(BLANKS[dice.nextInt(BLANKS.length)]);
            } else if (dice.nextInt(3) == 0) {
                all.append("\n").append("  ".repeat(depth));
            }
        }

        private void put(String word, int depth) {
            boolean wordBefore = all.length() > 0 && isOfWord(all.charAt(all.length() - 1));
            int before = all.length();
            if (wildness > 0 || dice.nextInt(6) == 0) {
                blanks(depth);
            }
            if (wordBefore && isOfWord(word.charAt(0)) && all.length() == before) {
                all.append(' ');
            }
            all.append(word);
        }

        private static boolean isOfWord(char c) {
            return Character.isLetterOrDigit(c) || c == '_';
        }

        private String name() {
            return NAMES[dice.nextInt(NAMES.length) % names];
        }

        private void statement(int depth) {
            int sort = dice.nextInt(depth < deep ? 6 : 3);
            if (sort < 2) {
                put(name(), depth);
                put("=", depth);
                expression(depth, 0);
                put(";", depth);
            } else if (sort == 2) {
                put("call", depth);
                put(name(), depth);
                put("(", depth);
                for (int i = dice.nextInt(4); i > 0; i--) {
                    expression(depth, 1);
                    if (i > 1) {
                        put(",", depth);
                    }
                }
                put(")", depth);
                put(";", depth);
            } else {
                put(sort == 5 ? "while" : "if", depth);
                expression(depth, 0);
                block(depth);
                if (sort < 5 && dice.nextBoolean()) {
                    put("else", depth);
                    block(depth);
                }
            }
        }

        private void block(int depth) {
            put("{", depth);
            for (int i = dice.nextInt(3); i > 0; i--) {
                statement(depth + 1);
            }
            put("}", depth);
        }

        private void expression(int depth, int within) {
            for (int i = dice.nextInt(3); i >= 0; i--) {
                if (dice.nextInt(6) == 0 && within < 8) {
                    put("(", depth);
                    expression(depth, within + 1);
                    put(")", depth);
                } else {
                    put(dice.nextInt(3) == 0 ? "" + dice.nextInt(1000) : name(), depth);
                }
                if (i > 0) {
                    put("+-<".charAt(dice.nextInt(3)) + "", depth);
                }
            }
        }
    }
}
