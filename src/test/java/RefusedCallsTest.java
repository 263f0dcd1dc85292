import java.util.ArrayList;
import java.util.List;

/**
 * A refused call changes nothing, and one that only asks neither: of two desks with the same past
 * one gets the call, and both must answer alike ever after.
 */
public final class RefusedCallsTest {
    private static final Checks CHECKS = new Checks();
    private static final int NONE = HouseManner.NONE;
    private static final int LEAST = Integer.MIN_VALUE;
    private static final int GREATEST = Integer.MAX_VALUE;
    private static final int[] NO_TEXTS = {-1, 12, 5, LEAST, GREATEST};

    interface Act {
        Object on(HouseManner x);
    }

    public static void main(String[] args) {
        CHECKS.sentence("3: IllegalArgumentException .. (nothing changes)", RefusedCallsTest::illegalTexts);
        CHECKS.sentence("2: NONE, and none come", RefusedCallsTest::fullTape);
        CHECKS.sentence("17: False, and nothing changes", RefusedCallsTest::refusedTakes);
        CHECKS.sentence("3: its FAULT (the text stays)", RefusedCallsTest::textsWithFault);
        CHECKS.sentence("4 to 9: refused askings", RefusedCallsTest::refusedAskings);
        CHECKS.sentence("11 to 18: refused askings", RefusedCallsTest::refusedStyleAskings);
        CHECKS.sentence("13, 14: lay() and turn() that are refused", RefusedCallsTest::refusedLayings);
        CHECKS.sentence("4 to 18: what only asks", RefusedCallsTest::askings);
        CHECKS.sentence("13, 14: lay() and turn() change OUT alone", RefusedCallsTest::layingsChangeOutAlone);
        CHECKS.end();
    }

    /** A desk with six TEXTS, a STYLE, other PRICES, a FAULT, 40 bytes on the tape and an OUT. */
    private static HouseManner desk(boolean styled, Act latest) {
        HouseManner x = new HouseManner();
        Checks.put(x, 0, 1, "rowOf = 1;\nif rowOf {\n  call f(rowOf, 2);\n}");
        Checks.put(x, 3, 2, "a=max_value;while a{}");
        Checks.put(x, 4, 0, "If=1;");
        Checks.put(x, 7, 0, "");
        Checks.put(x, 10, 3, "a = max_value; while a {}");
        Checks.put(x, 11, 3, "  b\n=1 ;");
        x.price(0, 3);
        x.price(1, 4);
        if (styled) {
            x.find();
        }
        Checks.put(x, 2, 0, "a=1;b=1234567;");
        latest.on(x);
        Checks.feedBytes(x, "c = 1;d =2;  e=3; f=4;if g{h=5;i=6;}    ".getBytes());
        return x;
    }

    /** All that a desk answers; what asks without changing goes first. */
    private static String answers(HouseManner x) {
        List<Object> all = new ArrayList<>();
        all.add(x.fault(0) + " " + x.fault(1) + " " + x.house());
        for (int t = 0; t < 12; t++) {
            int text = t;
            for (int what = 0; what < 4; what++) {
                int w = what;
                all.add(Checks.answerOf(() -> x.about(text, w)));
            }
            all.add(Checks.answerOf(() -> x.exception(text, NONE)));
        }
        for (int kind = 0; kind < 16; kind++) {
            all.add(x.seen(kind, NONE) + " " + x.seen(kind, 0) + " " + x.seen(kind, 1));
            all.add(x.habit(kind, 0) + " " + x.habit(kind, 1) + " " + x.habit(kind, 5) + " " + x.habit(kind, 7));
        }
        for (int i = 0; i < 4; i++) {
            all.add(x.gap(0, 4 * i, 0) + " " + x.gap(0, 4 * i, 1) + " " + x.gap(0, 4 * i, 3));
            all.add(x.gap(11, i % 3, 1) + " " + x.gap(10, 2 * i, 3));
        }
        all.add(x.alike(3, 10));
        all.add(Checks.out(x));
        all.add(changes(x));
        return all.toString();
    }

    private static String changes(HouseManner x) {
        List<Object> all = new ArrayList<>();
        for (int t = 0; t < 12; t++) {
            int text = t;
            all.add(Checks.answerOf(() -> x.take(text)));
        }
        all.add(x.about(0, 1));
        all.add(x.feed(0x6b3d373b, 0x20202020, 0x20202020, 0x20202020, 0x20202020));
        all.add(Checks.answerOf(() -> x.text(9, 2, 44)));
        all.add(Checks.answerOf(() -> x.about(9, 3)));
        all.add(x.price(0, 1));
        all.add(x.price(1, 1));
        all.add(x.find());
        all.add(x.lay(0));
        all.add(x.turn(3, 1));
        all.add(x.take(3));
        return all.toString();
    }

    private static final Act[] LATEST = {
        x -> x.turn(0, 0), x -> x.lay(10), x -> x.turn(4, 0), x -> x.told(NONE), x -> x.lay(11), x -> x.turn(7, 1)};

    /** Holds desks with all sorts of OUT, with a STYLE and without, against each other. */
    private static void changesNothing(String call, Object want, Act act) {
        for (int i = 0; i < 2 * LATEST.length; i++) {
            boolean styled = i % 2 == 0;
            Act latest = LATEST[i / 2];
            HouseManner x = desk(styled, latest);
            CHECKS.due(call, want, () -> act.on(x));
            String before = answers(desk(styled, latest));
            CHECKS.due("what comes after " + call, before, () -> answers(x));
        }
    }

    private static void illegal(String call, Act act) {
        changesNothing(call, Checks.ILLEGAL, act);
    }

    private static void noSuch(String call, Act act) {
        changesNothing(call, Checks.NO_SUCH, act);
    }

    private static void illegalTexts() {
        int[] noNumbers = {-1, 12, LEAST, GREATEST};
        for (int t : noNumbers) {
            illegal("text(" + t + ", 0, 0)", x -> x.text(t, 0, 0));
            illegal("text(" + t + ", 0, 6)", x -> x.text(t, 0, 6));
        }
        int[] noHands = {-1, 4, LEAST, GREATEST};
        for (int hand : noHands) {
            illegal("text(0, " + hand + ", 6)", x -> x.text(0, hand, 6));
            illegal("text(5, " + hand + ", 6)", x -> x.text(5, hand, 6));
        }
        int[] noSizes = {-1, 41, 800, 801, LEAST, GREATEST};
        for (int n : noSizes) {
            illegal("text(0, 0, " + n + ")", x -> x.text(0, 0, n));
            illegal("text(5, 3, " + n + ")", x -> x.text(5, 3, n));
        }
    }

    private static void fullTape() {
        for (int fault = 0; fault < 2; fault++) {
            HouseManner x = new HouseManner();
            for (int i = 0; i < 40; i++) {
                x.feed(0x20202020, 0x20202020, 0x20202020, 0x20202020, i == 39 ? 0x613d313b : 0x20202020);
            }
            for (int i = 0; i < 3; i++) {
                CHECKS.due("feed", NONE, () -> x.feed(0x3d3d3d3d, 1, 2, 3, 4));
            }
            int n = fault == 0 ? 800 : 799;
            CHECKS.due("text", fault, () -> x.text(0, 0, n));
            CHECKS.due("place", fault == 0 ? NONE : 799, () -> x.fault(1));
            CHECKS.due("the next feed", 20, () -> x.feed(0, 0, 0, 0, 0));
        }
    }

    private static void refusedTakes() {
        int[][] others = {{3, 4, 7, 10, 11}, {0, 3, 4, 7, 11}, {0, 3, 4, 7, 10, 11}, {0, 3, 4, 7, 10, 11},
            {0, 3, 4, 7, 10}, {0, 3, 4, 7, 10, 11}};
        for (int i = 0; i < LATEST.length; i++) {
            Act latest = LATEST[i];
            for (int t : others[i]) {
                HouseManner x = desk(true, latest);
                CHECKS.due("take(" + t + ")", false, () -> x.take(t));
                CHECKS.due("what comes after take(" + t + ")", answers(desk(true, latest)), () -> answers(x));
            }
        }
        for (int t : NO_TEXTS) {
            noSuch("take(" + t + ")", x -> x.take(t));
        }
    }

    /** The tape and the FAULT are others then; all that is about TEXTS, STYLE and OUT stays. */
    private static void textsWithFault() {
        int[] numbers = {0, 5, 10};
        for (int t : numbers) {
            HouseManner x = desk(true, y -> y.lay(10));
            CHECKS.due("text", 1, () -> x.text(t, 0, 5));
            HouseManner same = desk(true, y -> y.lay(10));
            same.text(6, 0, 5);
            CHECKS.due("of another number", answers(same), () -> answers(x));
        }
        HouseManner x = desk(true, y -> y.turn(0, 0));
        x.text(0, 0, 36);
        CHECKS.due("one without a fault changes it", false, () -> x.take(0));
    }

    private static void refusedAskings() {
        int[] whats = {-1, 4, LEAST, GREATEST};
        noSuch("fault(2)", x -> x.fault(2));
        for (int what : whats) {
            noSuch("fault(" + what + ")", x -> x.fault(what));
            noSuch("about(0, " + what + ")", x -> x.about(0, what));
            noSuch("gap(0, 0, " + what + ")", x -> x.gap(0, 0, what));
            illegal("seen(" + (what == 4 ? 16 : what) + ", 0)", x -> x.seen(what == 4 ? 16 : what, 0));
            illegal("seen(0, " + (what == -1 ? -2 : what) + ")", x -> x.seen(0, what == -1 ? -2 : what));
            illegal("price(" + what + ", 9)", x -> x.price(what, 9));
            illegal("price(0, " + (what == 4 ? 101 : what) + ")", x -> x.price(0, what == 4 ? 101 : what));
            illegal("price(1, " + (what == 4 ? 101 : what) + ")", x -> x.price(1, what == 4 ? 101 : what));
        }
        int[] noGaps = {-1, 15, LEAST, GREATEST};
        for (int i : noGaps) {
            noSuch("gap(0, " + i + ", 0)", x -> x.gap(0, i, 0));
        }
        for (int t : NO_TEXTS) {
            noSuch("about(" + t + ", 0)", x -> x.about(t, 0));
            noSuch("gap(" + t + ", 0, 0)", x -> x.gap(t, 0, 0));
            if (t != 5) {
                illegal("drop(" + t + ")", x -> x.drop(t));
            }
        }
        changesNothing("drop(5)", false, x -> x.drop(5));
    }

    private static void refusedStyleAskings() {
        int[] wrong = {-1, 16, LEAST, GREATEST};
        for (int number : wrong) {
            illegal("habit(" + number + ", 0)", x -> x.habit(number, 0));
            illegal("habit(0, " + number + ")", x -> x.habit(0, number));
        }
        illegal("habit(0, 8)", x -> x.habit(0, 8));
        illegal("exception(0, -2)", x -> x.exception(0, -2));
        illegal("exception(0, least)", x -> x.exception(0, LEAST));
        noSuch("told(-2)", x -> x.told(-2));
        noSuch("told(least)", x -> x.told(LEAST));
        noSuch("told(2000)", x -> x.told(2000));
        noSuch("told(greatest)", x -> x.told(GREATEST));
        for (int t : NO_TEXTS) {
            noSuch("exception(" + t + ", -1)", x -> x.exception(t, -1));
            noSuch("alike(0, " + t + ")", x -> x.alike(0, t));
            noSuch("alike(" + t + ", 0)", x -> x.alike(t, 0));
        }
    }

    private static void refusedLayings() {
        for (int t : NO_TEXTS) {
            noSuch("lay(" + t + ")", x -> x.lay(t));
            noSuch("turn(" + t + ", 0)", x -> x.turn(t, 0));
            noSuch("turn(" + t + ", 1)", x -> x.turn(t, 1));
        }
        int[] noMakes = {-1, 2, LEAST, GREATEST};
        for (int make : noMakes) {
            illegal("turn(0, " + make + ")", x -> x.turn(0, make));
        }
    }

    private static void askings() {
        changesNothing("about", 2, x -> x.about(3, 3));
        changesNothing("gap", 15, x -> x.gap(0, 4, 0));
        changesNothing("seen", 5, x -> x.seen(11, NONE));
        changesNothing("fault", 6, x -> x.fault(1));
        changesNothing("house", 1, x -> x.house());
        changesNothing("alike", true, x -> x.alike(3, 10));
        changesNothing("unlike", false, x -> x.alike(0, 10));
        changesNothing("told", true, x -> x.told(NONE) >= 0);
        changesNothing("habit", true, x -> x.habit(11, 5) >= NONE);
        changesNothing("exception", true, x -> x.exception(11, NONE) >= NONE);
    }

    /** Behind another lay() of the same text, OUT and all else is as if there had been but one. */
    private static void layingsChangeOutAlone() {
        Act[] acts = {x -> x.lay(3), x -> x.turn(3, 0), x -> x.turn(3, 1), x -> x.turn(4, 0), x -> x.lay(7)};
        for (Act between : acts) {
            for (int i = 0; i < 2 * LATEST.length; i++) {
                boolean styled = i % 2 == 0;
                Act latest = LATEST[i / 2];
                HouseManner x = desk(styled, latest);
                between.on(x);
                x.turn(10, 0);
                HouseManner y = desk(styled, latest);
                y.turn(10, 0);
                CHECKS.due("what comes after", answers(y), () -> answers(x));
            }
        }
    }
}
