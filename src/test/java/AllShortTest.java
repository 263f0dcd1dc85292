import java.util.ArrayList;
import java.util.List;

/**
 * Not by the dice but one and all: every text of a few TOKENS, every NAME of a few signs, every
 * pair of shorter ones, each held against PlainDesk's answers.
 */
public final class AllShortTest {
    private static final String[] TOKENS = {"a", "b_C", "1", "if", "else", "while", "call",
        "=", "+", "<", "(", ")", "{", "}", ",", ";", "?"};
    // What stands between all TOKENS of a text; with each DEPTH one of them is a BREAK.
    private static final String[] BETWEEN = {" ", "\n", "\n  ", "\n    ", "  ", ""};
    private static final String FIRST_SIGNS = "ifIF";
    private static final String SIGNS = "ifIF_2";
    private static final int MOST_CALLS = 512;

    private final Checks checks = new Checks();
    private HouseManner desk = new HouseManner();
    private PlainDesk plain = new PlainDesk();
    private int calls;

    public static void main(String[] args) {
        AllShortTest test = new AllShortTest();
        int most = args.length > 0 ? Integer.parseInt(args[0]) : 6;
        for (String between : BETWEEN) {
            test.goOn("", between, most);
        }
        for (String name : names(5)) {
            test.turnBothWays(name + "=1;");
        }
        for (String one : names(3)) {
            for (String other : names(3)) {
                test.turnBothWays(one + "=" + other + ";");
            }
        }
        test.checks.end();
    }

    /** All texts that begin with this one, as long as a text may begin like that. */
    private void goOn(String begun, String between, int more) {
        for (String token : TOKENS) {
            String text = begun.isEmpty() ? token : begun + between + token;
            if (mayGoOn(text) && more > 1) {
                goOn(text, between, more - 1);
            }
        }
    }

    private boolean mayGoOn(String text) {
        write(text, text.length() % 4);
        both("fault(1) of " + text, () -> desk.fault(1), () -> plain.fault(1));
        if (plain.fault(0) != 0) {
            return plain.fault(0) == 1 && plain.fault(1) == text.length();
        }
        for (int what = 0; what < 4; what++) {
            int w = what;
            both("about of " + text, () -> desk.about(0, w), () -> plain.about(0, w));
        }
        int gaps = plain.about(0, 0);
        for (int i = 0; i < gaps; i++) {
            int gap = i;
            for (int what = 0; what < 4; what++) {
                int w = what;
                both("gap of " + text, () -> desk.gap(0, gap, w), () -> plain.gap(0, gap, w));
            }
        }
        return true;
    }

    private static List<String> names(int longest) {
        List<String> names = new ArrayList<>(List.of(FIRST_SIGNS.split("")));
        for (int from = 0; names.get(from).length() < longest; from++) {
            for (String sign : SIGNS.split("")) {
                names.add(names.get(from) + sign);
            }
        }
        return names;
    }

    private void turnBothWays(String text) {
        write(text, 0);
        if (plain.fault(0) != 0) {
            return;
        }
        both("house() of " + text, () -> desk.house(), () -> plain.house());
        for (int make = 0; make < 2; make++) {
            int m = make;
            both("turn of " + text, () -> desk.turn(0, m), () -> plain.turn(0, m));
            int length = plain.told(-1);
            for (int k = -1; k <= length; k++) {
                int place = k;
                both("told of " + text, () -> desk.told(place), () -> plain.told(place));
            }
        }
    }

    private void both(String call, Checks.Call of, Checks.Call want) {
        calls++;
        checks.due(call, Checks.answerOf(want), of);
    }

    /** TEXT 0 on desks that are new, or were so not too many calls ago. */
    private void write(String text, int hand) {
        if (calls > MOST_CALLS / 2) {
            desk = new HouseManner();
            plain = new PlainDesk();
            calls = 0;
        }
        both("drop", () -> desk.drop(0), () -> plain.drop(0));
        for (int from = 0; from < text.length(); from += 20) {
            int[] five = new int[5];
            for (int i = 0; i < 20; i++) {
                int b = from + i < text.length() ? text.charAt(from + i) : ' ';
                five[i / 4] = five[i / 4] << 8 | b;
            }
            both("feed", () -> desk.feed(five[0], five[1], five[2], five[3], five[4]),
                    () -> plain.feed(five));
        }
        both("text " + text, () -> desk.text(0, hand, text.length()),
                () -> plain.text(0, hand, text.length()));
    }
}
