import java.util.ArrayList;
import java.util.List;

/** "What it is" and the promises 1 to 18: each sentence that names an edge, by itself. */
public final class EdgesOfCallsTest {
    private static final Checks CHECKS = new Checks();
    private static final String NO_SUCH = Checks.NO_SUCH;
    private static final String ILLEGAL = Checks.ILLEGAL;
    private static final int NONE = HouseManner.NONE;
    private static final int BLANKS = 0x20202020;
    private static final int LEAST = Integer.MIN_VALUE;
    private static final int GREATEST = Integer.MAX_VALUE;
    /** No TEXTS' numbers, however they are cut or wrapped around. */
    private static final int[] NO_TEXTS = {-1, 12, 13, 16, -12, 255, 256, 65536, LEAST, LEAST + 1, GREATEST};

    public static void main(String[] args) {
        CHECKS.sentence("NONE = -1", () -> CHECKS.due("NONE", -1, () -> HouseManner.NONE));
        CHECKS.sentence("at most 512 calls after it has been made", EdgesOfCallsTest::calls512);
        CHECKS.sentence("TEXTS 0 to 11", EdgesOfCallsTest::twelveTexts);
        newObject();
        feedAndText();
        askings();
        styles();
        outs();
        CHECKS.end();
    }

    private static void newObject() {
        CHECKS.sentence("1: No TEXTS", EdgesOfCallsTest::noTexts);
        CHECKS.sentence("1: no STYLE", EdgesOfCallsTest::noStyle);
        CHECKS.sentence("1: A new object has nothing of another one", EdgesOfCallsTest::nothingOfAnother);
    }

    private static void feedAndText() {
        CHECKS.sentence("2: Twenty bytes come behind the tape", EdgesOfCallsTest::feedBehind);
        CHECKS.sentence("2: of each number the highest first", EdgesOfCallsTest::feedHighestFirst);
        CHECKS.sentence("2: how many it has", EdgesOfCallsTest::feedCounts);
        CHECKS.sentence("2: NONE, and none come, if it would have more than 800", EdgesOfCallsTest::feedFull);
        CHECKS.sentence("3: The tape's first n bytes", EdgesOfCallsTest::textFirstBytes);
        CHECKS.sentence("3: (it is empty then)", EdgesOfCallsTest::textEmptiesTape);
        CHECKS.sentence("3: in place of what it was", EdgesOfCallsTest::textInPlace);
        CHECKS.sentence("3: or its FAULT (the text stays)", EdgesOfCallsTest::textWithFault);
        CHECKS.sentence("3: 0, or its FAULT: each text by itself", EdgesOfCallsTest::textByItself);
        CHECKS.sentence("3: IllegalArgumentException: no such number", EdgesOfCallsTest::textNoNumber);
        CHECKS.sentence("3: IllegalArgumentException: .. HAND", EdgesOfCallsTest::textNoHand);
        CHECKS.sentence("3: IllegalArgumentException: .. the tape has not so many", EdgesOfCallsTest::textTooMany);
        CHECKS.sentence("3: IllegalArgumentException: .. n below 0", EdgesOfCallsTest::textBelowZero);
        CHECKS.sentence("4: Of the latest text()", EdgesOfCallsTest::faultOfLatest);
        CHECKS.sentence("4: 1 the place (NONE without)", EdgesOfCallsTest::faultPlace);
        CHECKS.sentence("4: NoSuchElementException: another what", EdgesOfCallsTest::faultOther);
        CHECKS.sentence("5: A TEXT goes: whether there was one", EdgesOfCallsTest::dropGoes);
        CHECKS.sentence("5: IllegalArgumentException: no such number", EdgesOfCallsTest::dropNoNumber);
    }

    private static void askings() {
        CHECKS.sentence("6: 0 TOKENS, 1 bytes, 2 HAND", EdgesOfCallsTest::aboutLeastAndMost);
        CHECKS.sentence("6: 3 STATEMENTS (also within others)", EdgesOfCallsTest::aboutStatements);
        CHECKS.sentence("6: NoSuchElementException: there is none", EdgesOfCallsTest::aboutNone);
        CHECKS.sentence("6: NoSuchElementException: .. another what", EdgesOfCallsTest::aboutOther);
        CHECKS.sentence("7: NoSuchElementException: there is none (no TEXT)", EdgesOfCallsTest::gapNoText);
        CHECKS.sentence("7: NoSuchElementException: there is none (no GAP)", EdgesOfCallsTest::gapNone);
        CHECKS.sentence("7: NoSuchElementException: .. another what", EdgesOfCallsTest::gapOther);
        CHECKS.sentence("8: choice NONE: of any", EdgesOfCallsTest::seenAny);
        CHECKS.sentence("8: How many GAPS .. all TEXTS have", EdgesOfCallsTest::seenLeastAndMost);
        CHECKS.sentence("8: IllegalArgumentException: no such KIND", EdgesOfCallsTest::seenNoKind);
        CHECKS.sentence("8: IllegalArgumentException: .. CHOICE (0 to 3)", EdgesOfCallsTest::seenNoChoice);
        CHECKS.sentence("9: A PRICE: what it was", EdgesOfCallsTest::priceWas);
        CHECKS.sentence("9: IllegalArgumentException: no such PRICE", EdgesOfCallsTest::priceNone);
        CHECKS.sentence("9: IllegalArgumentException: .. v is not 0 to 100", EdgesOfCallsTest::priceTooMuch);
    }

    private static void styles() {
        CHECKS.sentence("10: the sum of all COSTS", EdgesOfCallsTest::findSum);
        CHECKS.sentence("10: for all KINDS: without TEXTS", EdgesOfCallsTest::findWithoutTexts);
        CHECKS.sentence("11: NONE where there are not so many", EdgesOfCallsTest::habitNotSoMany);
        CHECKS.sentence("11: 6 COST and 7 EXCEPTIONS when it was FOUND", EdgesOfCallsTest::habitWhenFound);
        CHECKS.sentence("11: NONE: there is no STYLE", EdgesOfCallsTest::habitNoStyle);
        CHECKS.sentence("11: IllegalArgumentException: no such KIND", EdgesOfCallsTest::habitNoKind);
        CHECKS.sentence("11: IllegalArgumentException: .. what", EdgesOfCallsTest::habitNoWhat);
        CHECKS.sentence("12: the i-th one's number; i NONE: how many", EdgesOfCallsTest::exceptionAll);
        CHECKS.sentence("12: of all KINDS", EdgesOfCallsTest::exceptionOfAllKinds);
        CHECKS.sentence("12: NONE: .. not so many", EdgesOfCallsTest::exceptionNotSoMany);
        CHECKS.sentence("12: NONE: there is no STYLE (i NONE: no STYLE)", EdgesOfCallsTest::exceptionNoStyle);
        CHECKS.sentence("12: NoSuchElementException: there is no such TEXT", EdgesOfCallsTest::exceptionNoText);
        CHECKS.sentence("12: IllegalArgumentException: i is below NONE", EdgesOfCallsTest::exceptionBelowNone);
    }

    private static void outs() {
        CHECKS.sentence("13: NONE (OUT is empty): there is no STYLE", EdgesOfCallsTest::layNoStyle);
        CHECKS.sentence("13: NONE (OUT is empty): .. more than 2,000", EdgesOfCallsTest::layTooLong);
        CHECKS.sentence("13: NoSuchElementException: there is no such TEXT", EdgesOfCallsTest::layNoText);
        CHECKS.sentence("14: NONE (OUT is empty): it can't be", EdgesOfCallsTest::turnCannot);
        CHECKS.sentence("14: NoSuchElementException: there is no such TEXT", EdgesOfCallsTest::turnNoText);
        CHECKS.sentence("14: IllegalArgumentException: no such MAKE", EdgesOfCallsTest::turnNoMake);
        CHECKS.sentence("15: THE HOUSE's MAKE (NONE)", EdgesOfCallsTest::houseNone);
        CHECKS.sentence("16: Byte k of OUT", EdgesOfCallsTest::toldBytes);
        CHECKS.sentence("16: k NONE: how many", EdgesOfCallsTest::toldHowMany);
        CHECKS.sentence("16: NoSuchElementException: there is none", EdgesOfCallsTest::toldNone);
        CHECKS.sentence("17: A TEXT becomes OUT (its HAND stays): true", EdgesOfCallsTest::takeBecomes);
        CHECKS.sentence("17: False: OUT is empty", EdgesOfCallsTest::takeEmpty);
        CHECKS.sentence("17: False: .. has more than 800 bytes", EdgesOfCallsTest::takeTooLong);
        CHECKS.sentence("17: False: .. not what lay() or turn() told latest", EdgesOfCallsTest::takeLatest);
        CHECKS.sentence("17: False: .. and of this TEXT", EdgesOfCallsTest::takeOfAnother);
        CHECKS.sentence("17: False: .. as it still is", EdgesOfCallsTest::takeAsItStillIs);
        CHECKS.sentence("17: NoSuchElementException: there is no such TEXT", EdgesOfCallsTest::takeNoText);
        CHECKS.sentence("18: the same TOKENS in order", EdgesOfCallsTest::alikeTokens);
        CHECKS.sentence("18: NoSuchElementException: there are no such TEXTS", EdgesOfCallsTest::alikeNoTexts);
    }

    private static void due(String what, Object want, Checks.Call call) {
        CHECKS.due(what, want, call);
    }

    private static int put(HouseManner x, int t, int hand, String text) {
        return Checks.put(x, t, hand, text);
    }

    private static int feedBlanks(HouseManner x) {
        return x.feed(BLANKS, BLANKS, BLANKS, BLANKS, BLANKS);
    }

    // ---- What it is, Terms

    private static void calls512() {
        HouseManner x = new HouseManner();
        for (int call = 1; call + 8 <= 504; call += 8) {
            due("feed", 20, () -> x.feed(0x613d313b, 0x62203d20, 0x323b2020, BLANKS, BLANKS));
            due("text", 0, () -> x.text(3, 1, 10));
            due("find", 4, () -> x.find());
            due("lay", 8, () -> x.lay(3));
            due("take", true, () -> x.take(3));
            due("about", 8, () -> x.about(3, 1));
            due("told", 59, () -> x.told(7));
            due("no text", NO_SUCH, () -> x.about(4, 0));
        }
        for (int call = 505; call <= 510; call++) {
            due("house", -1, () -> x.house());
        }
        due("the 511th call", true, () -> x.alike(3, 3));
        due("the 512th call", 8, () -> x.told(-1));
    }

    private static void twelveTexts() {
        HouseManner x = new HouseManner();
        for (int t = 0; t < 12; t++) {
            int number = t;
            due("text " + t, 0, () -> put(x, number, number % 4, "a=1;".repeat(number + 1)));
        }
        for (int t = 0; t < 12; t++) {
            int number = t;
            due("bytes of " + t, 4 * t + 4, () -> x.about(number, 1));
            due("hand of " + t, t % 4, () -> x.about(number, 2));
            due("drop " + t, true, () -> x.drop(number));
        }
    }

    // ---- Promise 1

    private static void noTexts() {
        HouseManner x = new HouseManner();
        for (int i = 0; i < 12; i++) {
            int t = i;
            due("about", NO_SUCH, () -> x.about(t, 0));
            due("gap", NO_SUCH, () -> x.gap(t, 0, 0));
            due("lay", NO_SUCH, () -> x.lay(t));
            due("turn", NO_SUCH, () -> x.turn(t, 0));
            due("take", NO_SUCH, () -> x.take(t));
            due("alike", NO_SUCH, () -> x.alike(t, t));
            due("exception", NO_SUCH, () -> x.exception(t, -1));
            due("drop", false, () -> x.drop(t));
        }
        for (int i = 0; i < 16; i++) {
            int kind = i;
            due("seen", 0, () -> x.seen(kind, -1));
        }
        due("house", NONE, () -> x.house());
    }

    private static void noStyle() {
        HouseManner x = new HouseManner();
        for (int i = 0; i < 16; i++) {
            for (int j = 0; j < 8; j++) {
                int kind = i;
                int what = j;
                due("habit", NONE, () -> x.habit(kind, what));
            }
        }
        put(x, 0, 0, "a=1;");
        due("exception", NONE, () -> x.exception(0, -1));
        due("lay", NONE, () -> x.lay(0));
    }

    private static void nothingOfAnother() {
        HouseManner x = CHECKS.with("aB = 1;", "cD = 2;");
        x.price(0, 77);
        x.price(1, 78);
        x.find();
        x.lay(1);
        put(x, 2, 0, "a=;");
        feedBlanks(x);
        HouseManner y = new HouseManner();
        due("no text", NO_SUCH, () -> y.about(0, 0));
        due("no style", NONE, () -> y.habit(11, 0));
        due("no tape", 20, () -> feedBlanks(y));
        due("no OUT", 0, () -> y.told(-1));
        due("no fault", 0, () -> y.fault(0));
        due("no place", NONE, () -> y.fault(1));
        due("price 0", 5, () -> y.price(0, 0));
        due("price 1", 2, () -> y.price(1, 0));
        due("the other one's tape", 40, () -> feedBlanks(x));
        due("the other one's style", 1, () -> x.habit(11, 5));
        due("the other one's fault", 2, () -> x.fault(1));
    }

    // ---- Promise 2

    private static void feedBehind() {
        HouseManner x = new HouseManner();
        x.feed(0x61616161, 0x61616161, 0x61616161, 0x613d6262, 0x62626262);
        x.feed(0x6263633b, BLANKS, BLANKS, BLANKS, BLANKS);
        due("both are one text", 0, () -> x.text(0, 0, 40));
        due("tokens", 4, () -> x.about(0, 0));
        x.turn(0, 0);
        due("as it was", "aaaaaaaaaaaaa=bbbbbbbcc;" + " ".repeat(16), () -> Checks.out(x));
    }

    private static void feedHighestFirst() {
        HouseManner x = new HouseManner();
        x.feed(0x61623d31, 0x32333435, 0x3b63643d, 0x36373839, 0x30303b65);
        x.feed(0x663d6768, 0x3b202020, BLANKS, BLANKS, BLANKS);
        due("text", 0, () -> x.text(0, 0, 26));
        x.turn(0, 0);
        due("bytes", "ab=12345;cd=678900;ef=gh; ", () -> Checks.out(x));
        int[] greatBytes = {0x80000000, 0xff000000, 0x00ff0000, 0x0000ff00, 0x000000ff, -1};
        int[] places = {0, 0, 1, 2, 3, 0};
        for (int i = 0; i < greatBytes.length; i++) {
            int number = greatBytes[i] == -1 || greatBytes[i] == 0x80000000 ? greatBytes[i]
                    : BLANKS & ~greatBytes[i] | greatBytes[i];
            x.feed(BLANKS, BLANKS, number, BLANKS, BLANKS);
            due("a byte over 127 is no blank", 1, () -> x.text(0, 0, 20));
            int place = 8 + places[i];
            due("its place", place, () -> x.fault(1));
        }
    }

    private static void feedCounts() {
        HouseManner x = new HouseManner();
        for (int i = 1; i <= 39; i++) {
            int fed = 20 * i;
            due("feed", fed, () -> feedBlanks(x));
        }
        x.text(0, 0, 0);
        due("from the start again", 20, () -> feedBlanks(x));
        due("nothing but zeros comes, too", 40, () -> x.feed(0, 0, 0, 0, 0));
    }

    private static void feedFull() {
        HouseManner x = new HouseManner();
        for (int i = 0; i < 39; i++) {
            feedBlanks(x);
        }
        due("just 800", 800, () -> feedBlanks(x));
        due("820", NONE, () -> x.feed(-1, -1, -1, -1, -1));
        due("820 again", NONE, () -> x.feed(0, 0, 0, 0, 0));
        due("not so many", ILLEGAL, () -> x.text(0, 0, 801));
        due("none came", 0, () -> x.text(0, 0, 800));
        due("bytes", 800, () -> x.about(0, 1));
        due("empty again", 20, () -> feedBlanks(x));
    }

    // ---- Promise 3

    private static void textFirstBytes() {
        HouseManner x = new HouseManner();
        due("none of an empty tape", 0, () -> x.text(0, 0, 0));
        due("bytes 0", 0, () -> x.about(0, 1));
        Checks.feedBytes(x, "a=1;b=2;c=3;d=4;e=5;".getBytes());
        due("all of the tape", 0, () -> x.text(0, 0, 20));
        due("bytes 20", 20, () -> x.about(0, 1));
        Checks.feedBytes(x, "a=1;b=2;c=3;d=4;e=5;".getBytes());
        due("all but one", 1, () -> x.text(0, 0, 19));
        due("ends too soon", 19, () -> x.fault(1));
        Checks.feedBytes(x, "a=1;b=2;c=3;d=4;e=5;".getBytes());
        due("the first 8", 0, () -> x.text(0, 0, 8));
        x.turn(0, 0);
        due("the first 8 are", "a=1;b=2;", () -> Checks.out(x));
        Checks.feedBytes(x, "a=1;b=2;c=3;d=4;e=5;".getBytes());
        due("none of a full tape", 0, () -> x.text(0, 0, 0));
        due("bytes none", 0, () -> x.about(0, 1));
    }

    private static void textEmptiesTape() {
        HouseManner x = new HouseManner();
        int[] sizes = {20, 8, 1, 0};
        for (int n : sizes) {
            Checks.feedBytes(x, "a=1;b=2;".getBytes());
            x.text(0, 0, n);
            due("nothing left behind " + n, ILLEGAL, () -> x.text(1, 0, 1));
            due("empty", 20, () -> feedBlanks(x));
            x.text(0, 0, 0);
        }
        Checks.feedBytes(x, "a=;".getBytes());
        due("a fault", 1, () -> x.text(0, 0, 3));
        due("empty behind a fault, too", ILLEGAL, () -> x.text(0, 0, 1));
        due("and new from its start", 20, () -> feedBlanks(x));
    }

    private static void textInPlace() {
        HouseManner x = CHECKS.with("if a{b = 1;}call f();");
        due("shorter", 0, () -> put(x, 0, 3, "c=1;"));
        due("tokens", 4, () -> x.about(0, 0));
        due("bytes", 4, () -> x.about(0, 1));
        due("hand", 3, () -> x.about(0, 2));
        due("statements", 1, () -> x.about(0, 3));
        due("no gap of the old one", NO_SUCH, () -> x.gap(0, 3, 0));
        due("a gap's tests", 512 + 5, () -> x.gap(0, 0, 3));
        due("seen of the old one", 0, () -> x.seen(11, 1));
        due("seen of the new one", 1, () -> x.seen(11, 0));
        due("nothing", 0, () -> put(x, 0, 1, ""));
        due("there still", 0, () -> x.about(0, 0));
        due("seen of nothing", 0, () -> x.seen(11, -1));
    }

    private static void textWithFault() {
        HouseManner x = new HouseManner();
        put(x, 0, 2, "aB = 1;");
        String[] faulty = {"c=;", "c", "c=1234567;", "$", "d=2;d=3;=", "}"};
        int[] faults = {1, 1, 2, 1, 1, 1};
        for (int i = 0; i < faulty.length; i++) {
            int number = i;
            due("fault", faults[i], () -> put(x, 0, 1, faulty[number]));
            due("tokens stay", 4, () -> x.about(0, 0));
            due("bytes stay", 7, () -> x.about(0, 1));
            due("hand stays", 2, () -> x.about(0, 2));
            due("statements stay", 1, () -> x.about(0, 3));
            due("gaps stay", 1, () -> x.gap(0, 1, 1));
            due("names stay", 1, () -> x.house());
            due("none where none was", faults[i], () -> put(x, 1, 1, faulty[number]));
            due("none there", NO_SUCH, () -> x.about(1, 0));
        }
    }

    /** What stood open, or was too much, where a text broke off is nothing to the next one. */
    private static void textByItself() {
        String[] broken = {"if a{", "a=((((((", "a=(((((((", "if a{while b{if c{d=(", "call f(", "if a{}",
            "while a{}else", "if a{}else", "while", "call", "a=", "if a{if a{if a{if a{if a{if a{if a{", "a=1;".repeat(50) + "a",
            "if a{if a{if a{if a{if a{if a{call f("};
        String deepest = "if a{if a{if a{if a{if a{if a{b=1;}}}}}}";
        for (String text : broken) {
            HouseManner x = new HouseManner();
            put(x, 1, 0, text);
            due("no statement", 0, () -> put(x, 0, 0, ""));
            put(x, 1, 0, text);
            due("a statement", 0, () -> put(x, 0, 0, "a=1;"));
            due("its statements", 1, () -> x.about(0, 3));
            due("its depth", 0, () -> x.gap(0, 0, 2));
            put(x, 1, 0, text);
            due("an else", 1, () -> put(x, 0, 0, "else{}"));
            put(x, 1, 0, text);
            due("an end of a block", 1, () -> put(x, 0, 0, "}"));
            put(x, 1, 0, text);
            due("the deepest", 0, () -> put(x, 0, 0, deepest));
            put(x, 1, 0, text);
            due("200 tokens", 0, () -> put(x, 0, 0, "a=1;".repeat(50)));
        }
    }

    private static void textNoNumber() {
        HouseManner x = CHECKS.with("a=1;");
        for (int t : NO_TEXTS) {
            due("text(" + t, ILLEGAL, () -> x.text(t, 0, 0));
        }
        due("0 is one", 0, () -> x.text(0, 0, 0));
        due("11 is one", 0, () -> x.text(11, 0, 0));
    }

    private static void textNoHand() {
        HouseManner x = CHECKS.with("a=1;");
        int[] none = {-1, 4, 5, -4, 256, LEAST, GREATEST};
        for (int hand : none) {
            due("hand " + hand, ILLEGAL, () -> x.text(0, hand, 0));
        }
        due("the text stays", 4, () -> x.about(0, 1));
        for (int hand = 0; hand < 4; hand++) {
            int h = hand;
            due("hand " + hand, 0, () -> x.text(0, h, 0));
            due("about hand " + hand, hand, () -> x.about(0, 2));
        }
    }

    private static void textTooMany() {
        HouseManner x = CHECKS.with("a=1;");
        due("1 of none", ILLEGAL, () -> x.text(0, 0, 1));
        feedBlanks(x);
        int[] tooMany = {21, 22, 40, 800, 801, GREATEST};
        for (int n : tooMany) {
            due(n + " of 20", ILLEGAL, () -> x.text(0, 0, n));
        }
        due("the text stays", 4, () -> x.about(0, 1));
        due("the tape stays", 40, () -> feedBlanks(x));
        due("41 of 40", ILLEGAL, () -> x.text(0, 0, 41));
        due("40 of 40", 0, () -> x.text(0, 0, 40));
    }

    private static void textBelowZero() {
        HouseManner x = CHECKS.with("a=1;");
        int[] below = {-1, -2, -20, LEAST, LEAST + 20};
        for (int n : below) {
            due("n " + n, ILLEGAL, () -> x.text(0, 0, n));
        }
        due("the text stays", 4, () -> x.about(0, 1));
        feedBlanks(x);
        due("-1 of 20", ILLEGAL, () -> x.text(0, 0, -1));
        due("the tape stays", 40, () -> feedBlanks(x));
    }

    // ---- Promises 4 and 5

    private static void faultOfLatest() {
        HouseManner x = new HouseManner();
        put(x, 0, 0, "a=;");
        put(x, 1, 0, "b=1234567;");
        due("of the latest", 2, () -> x.fault(0));
        due("an illegal one", ILLEGAL, () -> x.text(12, 0, 0));
        due("is none", 2, () -> x.fault(0));
        put(x, 2, 0, "c=3;");
        due("none of the latest", 0, () -> x.fault(0));
        put(x, 2, 0, "c=");
        x.turn(2, 0);
        x.take(2);
        x.drop(2);
        x.find();
        due("other calls don't matter", 1, () -> x.fault(0));
        due("its place neither", 2, () -> x.fault(1));
    }

    private static void faultPlace() {
        HouseManner x = new HouseManner();
        put(x, 0, 0, "=");
        due("0", 0, () -> x.fault(1));
        put(x, 0, 0, "a=1;");
        due("none", NONE, () -> x.fault(1));
        put(x, 0, 0, "a" + " ".repeat(799));
        due("800", 800, () -> x.fault(1));
        x.text(0, 0, 0);
        due("none of an empty text", NONE, () -> x.fault(1));
    }

    private static void faultOther() {
        HouseManner x = new HouseManner();
        int[] others = {-1, 2, 3, -2, LEAST, GREATEST};
        for (int what : others) {
            due("new: what " + what, NO_SUCH, () -> x.fault(what));
        }
        put(x, 0, 0, "a=;");
        for (int what : others) {
            due("what " + what, NO_SUCH, () -> x.fault(what));
        }
    }

    private static void dropGoes() {
        HouseManner x = CHECKS.with("a =1;", "b=1;", "");
        due("one", true, () -> x.drop(0));
        due("none now", false, () -> x.drop(0));
        due("it is gone", NO_SUCH, () -> x.about(0, 1));
        due("its gaps, too", 0, () -> x.seen(11, 1));
        due("an empty one is one", true, () -> x.drop(2));
        due("none now, too", false, () -> x.drop(2));
        due("never one", false, () -> x.drop(11));
        due("the others stay", 4, () -> x.about(1, 1));
        put(x, 0, 0, "c=");
        due("a fault makes none", false, () -> x.drop(0));
        put(x, 0, 0, "c=1;");
        due("one again", true, () -> x.drop(0));
    }

    private static void dropNoNumber() {
        HouseManner x = CHECKS.with("a=1;");
        for (int t : NO_TEXTS) {
            due("drop(" + t, ILLEGAL, () -> x.drop(t));
        }
        due("the text stays", 4, () -> x.about(0, 1));
    }

    // ---- Promises 6 to 9

    private static void aboutLeastAndMost() {
        HouseManner x = CHECKS.with("", "a=1;".repeat(50) + " ".repeat(600));
        due("no tokens", 0, () -> x.about(0, 0));
        due("no bytes", 0, () -> x.about(0, 1));
        due("200 tokens", 200, () -> x.about(1, 0));
        due("800 bytes", 800, () -> x.about(1, 1));
        put(x, 2, 3, " \n ");
        due("hand 3", 3, () -> x.about(2, 2));
        due("3 bytes", 3, () -> x.about(2, 1));
    }

    private static void aboutStatements() {
        String[] texts = {"", "a=1;", "if a{}", "if a{}else{}", "if a{b=1;}else{c=1;}", "while a{while b{}}",
            "call f();", "a=1;".repeat(50), "if a{if b{if c{if d{if e{if f{g=1;h=2;}}}}}}"};
        int[] want = {0, 1, 1, 1, 3, 2, 1, 50, 8};
        HouseManner x = CHECKS.with(texts);
        for (int i = 0; i < texts.length; i++) {
            int t = i;
            due("statements of " + texts[i], want[i], () -> x.about(t, 3));
        }
    }

    private static void aboutNone() {
        HouseManner x = CHECKS.with("a=1;");
        for (int t : NO_TEXTS) {
            due("about(" + t, NO_SUCH, () -> x.about(t, 0));
        }
        due("never one", NO_SUCH, () -> x.about(1, 0));
        x.drop(0);
        due("gone", NO_SUCH, () -> x.about(0, 0));
    }

    private static void aboutOther() {
        HouseManner x = CHECKS.with("a=1;");
        int[] others = {-1, 4, 5, LEAST, GREATEST};
        for (int what : others) {
            due("what " + what, NO_SUCH, () -> x.about(0, what));
            due("no text, what " + what, NO_SUCH, () -> x.about(1, what));
        }
    }

    private static void gapNoText() {
        HouseManner x = CHECKS.with("a=1;");
        for (int t : NO_TEXTS) {
            due("gap(" + t, NO_SUCH, () -> x.gap(t, 0, 0));
        }
        due("never one", NO_SUCH, () -> x.gap(1, 0, 0));
        x.drop(0);
        due("gone", NO_SUCH, () -> x.gap(0, 0, 0));
    }

    private static void gapNone() {
        HouseManner x = CHECKS.with("a=1;", "", "b=1;".repeat(50));
        int[] none = {-1, -2, 200, 201, LEAST, LEAST + 1, GREATEST, GREATEST - 1};
        for (int i : none) {
            for (int t = 0; t < 3; t++) {
                int number = t;
                due("gap " + i + " of " + t, NO_SUCH, () -> x.gap(number, i, 2));
            }
        }
        due("the last of 3", 0, () -> x.gap(0, 2, 0));
        due("not a fourth", NO_SUCH, () -> x.gap(0, 3, 0));
        due("not one of none", NO_SUCH, () -> x.gap(1, 0, 0));
        due("the last of 199", 0, () -> x.gap(2, 198, 0));
        due("not a 200th", NO_SUCH, () -> x.gap(2, 199, 0));
    }

    private static void gapOther() {
        HouseManner x = CHECKS.with("a=1;");
        int[] others = {-1, 4, 5, LEAST, GREATEST};
        for (int what : others) {
            due("what " + what, NO_SUCH, () -> x.gap(0, 0, what));
        }
        int[] want = {11, 0, 0, 69};
        for (int i = 0; i < 4; i++) {
            int what = i;
            due("what " + what, want[i], () -> x.gap(0, 0, what));
        }
    }

    private static void seenAny() {
        HouseManner x = CHECKS.with("a=1;b =1;c\n=1;d  =1;e = 1;");
        int[] want = {1, 2, 1, 1};
        for (int i = 0; i < 4; i++) {
            int choice = i;
            due("choice " + i, want[i], () -> x.seen(11, choice));
        }
        due("of any", 5, () -> x.seen(11, -1));
        due("of another kind", 5, () -> x.seen(12, -1));
        due("of another kind, 0", 4, () -> x.seen(12, 0));
    }

    private static void seenLeastAndMost() {
        HouseManner x = new HouseManner();
        due("none", 0, () -> x.seen(0, -1));
        for (int t = 0; t < 12; t++) {
            put(x, t, 0, "a=1;".repeat(50));
        }
        due("of twelve full ones", 600, () -> x.seen(0, -1));
        due("of twelve full ones, 0", 600, () -> x.seen(0, 0));
        due("between them", 588, () -> x.seen(1, 0));
        due("no others", 0, () -> x.seen(15, -1));
        x.drop(11);
        due("of eleven", 550, () -> x.seen(0, -1));
    }

    private static void seenNoKind() {
        HouseManner x = CHECKS.with("a=1;");
        int[] none = {-1, -2, 16, 17, LEAST, GREATEST};
        for (int kind : none) {
            due("kind " + kind, ILLEGAL, () -> x.seen(kind, 0));
            due("kind " + kind + " of any", ILLEGAL, () -> x.seen(kind, -1));
        }
        due("kind 0", 1, () -> x.seen(0, -1));
        due("kind 15", 0, () -> x.seen(15, -1));
    }

    private static void seenNoChoice() {
        HouseManner x = CHECKS.with("a=1;");
        int[] none = {-2, -3, 4, 5, LEAST, GREATEST};
        for (int choice : none) {
            due("choice " + choice, ILLEGAL, () -> x.seen(0, choice));
        }
        due("choice 3", 0, () -> x.seen(0, 3));
    }

    private static void priceWas() {
        HouseManner x = new HouseManner();
        due("5 at first", 5, () -> x.price(0, 0));
        due("2 at first", 2, () -> x.price(1, 100));
        due("0", 0, () -> x.price(0, 100));
        due("100", 100, () -> x.price(1, 0));
        due("100 of the other", 100, () -> x.price(0, 1));
        due("0 of the other", 0, () -> x.price(1, 1));
        due("1", 1, () -> x.price(0, 1));
        due("the same", 1, () -> x.price(0, 1));
    }

    private static void priceNone() {
        HouseManner x = new HouseManner();
        int[] none = {-1, 2, 3, LEAST, GREATEST};
        for (int what : none) {
            due("what " + what, ILLEGAL, () -> x.price(what, 1));
        }
        due("nothing changes 0", 5, () -> x.price(0, 1));
        due("nothing changes 1", 2, () -> x.price(1, 1));
    }

    private static void priceTooMuch() {
        HouseManner x = new HouseManner();
        int[] none = {-1, -2, 101, 102, LEAST, GREATEST};
        for (int v : none) {
            due("v " + v, ILLEGAL, () -> x.price(0, v));
            due("v " + v + " of 1", ILLEGAL, () -> x.price(1, v));
        }
        due("nothing changes 0", 5, () -> x.price(0, 0));
        due("nothing changes 1", 2, () -> x.price(1, 0));
        due("0 0", 0, () -> x.price(0, 100));
        due("0 1", 0, () -> x.price(1, 100));
        due("100 0", 100, () -> x.price(0, 100));
        due("100 1", 100, () -> x.price(1, 100));
    }

    // ---- Promises 10 to 12

    private static void findSum() {
        HouseManner x = CHECKS.with("a =1;b=1;c= 1 ;");
        due("of three kinds", 6, () -> x.find());
        int sum = 0;
        for (int kind = 0; kind < 16; kind++) {
            sum += x.habit(kind, 6);
        }
        int all = sum;
        due("the sum", 6, () -> all);
        x.price(1, 100);
        x.price(0, 100);
        due("dear ones", 300, () -> x.find());
        HouseManner y = new HouseManner();
        for (int t = 0; t < 12; t++) {
            put(y, t, t % 4, "a  =  1  ;  ".repeat(50));
        }
        y.price(1, 100);
        due("nothing but exceptions", 100 * 12 * 199, () -> y.find());
        due("of kind 1", 100 * 12 * 49, () -> y.habit(1, 6));
        due("exceptions of kind 1", 12 * 49, () -> y.habit(1, 7));
    }

    private static void findWithoutTexts() {
        HouseManner x = new HouseManner();
        due("find", 0, () -> x.find());
        for (int kind = 0; kind < 16; kind++) {
            CHECKS.habitIs(x, kind, 0, -1, -1, -1, -1, 0, 0, 0);
        }
        put(x, 0, 0, " a = 1 ; if b { } ");
        due("laid by it", 10, () -> x.lay(0));
        due("as", "a=1;if b{}", () -> Checks.out(x));
        x.drop(0);
        put(x, 1, 0, "a =1;");
        x.find();
        x.drop(1);
        due("found anew without texts", 0, () -> x.find());
        CHECKS.habitIs(x, 11, 0, -1, -1, -1, -1, 0, 0, 0);
    }

    private static void habitNotSoMany() {
        HouseManner x = CHECKS.with("a =1;");
        x.price(0, 0);
        x.find();
        CHECKS.habitIs(x, 11, 0, -1, -1, -1, -1, 1, 0, 0);
        put(x, 1, 1, "a=1;");
        x.find();
        CHECKS.habitIs(x, 11, 1, 6, 1, -1, -1, 0, 0, 0);
        put(x, 2, 2, "a\n=1;");
        x.find();
        CHECKS.habitIs(x, 11, 2, 6, 1, 7, 0, 2, 0, 0);
        x.drop(2);
        x.find();
        CHECKS.habitIs(x, 11, 1, 6, 1, -1, -1, 0, 0, 0);
        x.drop(1);
        x.find();
        CHECKS.habitIs(x, 11, 0, -1, -1, -1, -1, 1, 0, 0);
    }

    private static void habitWhenFound() {
        HouseManner x = CHECKS.with("a =1;b=1;c=1;");
        x.find();
        CHECKS.habitIs(x, 11, 0, -1, -1, -1, -1, 0, 2, 1);
        x.price(1, 9);
        put(x, 1, 0, "d =1;e =1;");
        CHECKS.habitIs(x, 11, 0, -1, -1, -1, -1, 0, 2, 1);
        x.drop(0);
        x.drop(1);
        CHECKS.habitIs(x, 11, 0, -1, -1, -1, -1, 0, 2, 1);
    }

    private static void habitNoStyle() {
        HouseManner x = CHECKS.with("a =1;");
        due("tests", NONE, () -> x.habit(11, 0));
        due("the last choice", NONE, () -> x.habit(11, 5));
        due("cost", NONE, () -> x.habit(11, 6));
        due("exceptions", NONE, () -> x.habit(0, 7));
    }

    private static void habitNoKind() {
        HouseManner x = CHECKS.with("a =1;");
        int[] none = {-1, -2, 16, 17, LEAST, GREATEST};
        for (int kind : none) {
            due("without a style, kind " + kind, ILLEGAL, () -> x.habit(kind, 0));
        }
        x.find();
        for (int kind : none) {
            due("kind " + kind, ILLEGAL, () -> x.habit(kind, 0));
        }
    }

    private static void habitNoWhat() {
        HouseManner x = CHECKS.with("a =1;");
        int[] none = {-1, -2, 8, 9, LEAST, GREATEST};
        for (int what : none) {
            due("without a style, what " + what, ILLEGAL, () -> x.habit(0, what));
        }
        x.find();
        for (int what : none) {
            due("what " + what, ILLEGAL, () -> x.habit(0, what));
        }
    }

    private static void exceptionAll() {
        HouseManner x = CHECKS.with("a=1;");
        x.find();
        put(x, 1, 0, "a  =  1  ;  ".repeat(50));
        due("how many", 199, () -> x.exception(1, -1));
        for (int i = 0; i < 199; i += 33) {
            int number = i;
            due("the " + i + "-th", i, () -> x.exception(1, number));
        }
        due("the last", 198, () -> x.exception(1, 198));
        due("no more", NONE, () -> x.exception(1, 199));
        put(x, 2, 0, "a=1;a =1;");
        due("how many of another", 1, () -> x.exception(2, -1));
        due("its number", 4, () -> x.exception(2, 0));
        due("of the first text", 0, () -> x.exception(0, -1));
    }

    private static void exceptionOfAllKinds() {
        HouseManner x = CHECKS.with("");
        x.find();
        put(x, 1, 0, "if a { b = 1 ; } else { call f ( c , ( 2 ) ) ; } while d < 3 { }");
        List<Integer> kinds = new ArrayList<>();
        for (int i = 0; i < x.exception(1, -1); i++) {
            kinds.add(x.gap(1, x.exception(1, i), 0));
        }
        due("kinds of the exceptions, without 15",
                List.of(5, 2, 11, 12, 0, 1, 4, 5, 2, 10, 8, 6, 7, 8, 9, 9, 0, 1, 4, 13, 14, 5, 2), () -> kinds);
    }

    private static void exceptionNotSoMany() {
        HouseManner x = CHECKS.with("a =1;b=1;c=1;", "", "d=1;");
        x.find();
        due("one", 0, () -> x.exception(0, 0));
        due("not two", NONE, () -> x.exception(0, 1));
        due("the greatest i", NONE, () -> x.exception(0, GREATEST));
        due("none of an empty one", NONE, () -> x.exception(1, 0));
        due("how many of an empty one", 0, () -> x.exception(1, -1));
        due("none", NONE, () -> x.exception(2, 0));
        due("how many", 0, () -> x.exception(2, -1));
    }

    private static void exceptionNoStyle() {
        HouseManner x = CHECKS.with("a =1;", "");
        due("how many", NONE, () -> x.exception(0, -1));
        due("the first", NONE, () -> x.exception(0, 0));
        due("the greatest i", NONE, () -> x.exception(0, GREATEST));
        due("of an empty one", NONE, () -> x.exception(1, -1));
    }

    private static void exceptionNoText() {
        HouseManner x = CHECKS.with("a=1;");
        for (int style = 0; style < 2; style++) {
            for (int t : NO_TEXTS) {
                due("exception(" + t, NO_SUCH, () -> x.exception(t, -1));
                due("exception(" + t + ", 0", NO_SUCH, () -> x.exception(t, 0));
            }
            due("never one", NO_SUCH, () -> x.exception(1, -1));
            x.find();
        }
        x.drop(0);
        due("gone", NO_SUCH, () -> x.exception(0, -1));
    }

    private static void exceptionBelowNone() {
        HouseManner x = CHECKS.with("a=1;");
        int[] below = {-2, -3, LEAST, LEAST + 1};
        for (int style = 0; style < 2; style++) {
            for (int i : below) {
                due("i " + i, ILLEGAL, () -> x.exception(0, i));
            }
            x.find();
        }
    }

    // ---- Promises 13 to 18

    private static void layNoStyle() {
        HouseManner x = CHECKS.with("a = 1;", "");
        due("none", NONE, () -> x.lay(0));
        x.turn(0, 0);
        due("something is told", 6, () -> x.told(-1));
        due("none again", NONE, () -> x.lay(0));
        due("OUT is empty", 0, () -> x.told(-1));
        due("none of an empty one", NONE, () -> x.lay(1));
        x.find();
        due("with a style", 6, () -> x.lay(0));
        due("an empty one with a style", 0, () -> x.lay(1));
    }

    /** A text six BLOCKS deep in which each GAP is laid as a BREAK of 13 bytes, so many bytes in all. */
    private static String deepText(HouseManner x, int bytes) {
        String six = "if a{".repeat(6);
        String gap = "\n" + " ".repeat(12);
        put(x, 0, 0, six + ("b" + gap + "=" + gap + "1" + gap + ";" + gap).repeat(2) + "b=1;}}}}}}");
        x.find();
        String text = six + "b=1;".repeat(34) + "}}}}}}";
        put(x, 1, 0, text);
        int lacking = bytes - x.lay(1);
        StringBuilder names = new StringBuilder(six);
        for (int i = 0; i < 34; i++) {
            int longer = Math.max(0, Math.min(15, lacking));
            lacking -= longer;
            names.append("b".repeat(longer + 1)).append("=1;");
        }
        return names + "}}}}}}";
    }

    private static void layTooLong() {
        HouseManner x = new HouseManner();
        String just = deepText(x, 2000);
        due("in", 0, () -> put(x, 2, 0, just));
        due("just 2000", 2000, () -> x.lay(2));
        due("how many", 2000, () -> x.told(-1));
        due("its first byte", 105, () -> x.told(0));
        due("its last byte", 125, () -> x.told(1999));
        due("one more in", 0, () -> put(x, 2, 0, just.replace("=1;}", "=12;}")));
        due("2001", NONE, () -> x.lay(2));
        due("OUT is empty", 0, () -> x.told(-1));
        due("no byte of it", NO_SUCH, () -> x.told(0));
        due("far more in", 0, () -> put(x, 2, 0, just.replace("=1;}", "=1;" + "b=1;".repeat(4) + "}")));
        due("far more than 2000", NONE, () -> x.lay(2));
        due("the one below", 1999, () -> {
            HouseManner y = new HouseManner();
            put(y, 2, 0, deepText(y, 1999));
            return y.lay(2);
        });
        due("800 bytes and no more are a text's, not OUT's", true, () -> x.lay(1) > 800);
    }

    private static void layNoText() {
        HouseManner x = CHECKS.with("a=1;", "b=1;");
        for (int style = 0; style < 2; style++) {
            x.turn(1, 0);
            for (int t : NO_TEXTS) {
                due("lay(" + t, NO_SUCH, () -> x.lay(t));
            }
            due("never one", NO_SUCH, () -> x.lay(2));
            due("OUT stays", "b=1;", () -> Checks.out(x));
            x.find();
        }
        x.drop(0);
        due("gone", NO_SUCH, () -> x.lay(0));
        due("OUT stays still", "b=1;", () -> Checks.out(x));
        due("and can be taken", true, () -> x.take(1));
    }

    private static void turnCannot() {
        HouseManner x = CHECKS.with("rowOf=row_of;", "If=1;", "abcdefghijklmnoP=1;", "aB=1;" + " ".repeat(795), "q=1;");
        for (int t = 0; t < 4; t++) {
            int number = t;
            x.turn(4, 0);
            due("told before", 4, () -> x.told(-1));
            due("turn " + t, NONE, () -> x.turn(number, 0));
            due("OUT is empty", 0, () -> x.told(-1));
            due("nothing to take", false, () -> x.take(number));
            due("nothing to take of the other", false, () -> x.take(4));
        }
        x.text(5, 0, 0);
        due("an empty one can be", 0, () -> x.turn(5, 0));
    }

    private static void turnNoText() {
        HouseManner x = CHECKS.with("a=1;", "b=1;");
        x.turn(1, 0);
        for (int t : NO_TEXTS) {
            due("turn(" + t, NO_SUCH, () -> x.turn(t, 0));
            due("turn(" + t + ", 1", NO_SUCH, () -> x.turn(t, 1));
        }
        due("never one", NO_SUCH, () -> x.turn(2, 0));
        x.drop(0);
        due("gone", NO_SUCH, () -> x.turn(0, 0));
        due("OUT stays", "b=1;", () -> Checks.out(x));
        due("and can be taken", true, () -> x.take(1));
    }

    private static void turnNoMake() {
        HouseManner x = CHECKS.with("aB=1;", "b=1;");
        x.turn(1, 0);
        int[] none = {-1, 2, 3, 256, LEAST, GREATEST};
        for (int make : none) {
            due("make " + make, ILLEGAL, () -> x.turn(0, make));
        }
        due("OUT stays", "b=1;", () -> Checks.out(x));
        due("and can be taken", true, () -> x.take(1));
        due("make 0", 6, () -> x.turn(0, 0));
        due("make 1", 5, () -> x.turn(0, 1));
    }

    private static void houseNone() {
        HouseManner x = new HouseManner();
        due("without texts", NONE, () -> x.house());
        put(x, 0, 0, "");
        due("without names", NONE, () -> x.house());
        put(x, 0, 0, "a=b;");
        due("of one part each", NONE, () -> x.house());
        put(x, 11, 0, "a_b=1;");
        due("one", 0, () -> x.house());
        put(x, 0, 0, "aB=1;");
        due("as many", NONE, () -> x.house());
        x.drop(11);
        due("the other", 1, () -> x.house());
        x.drop(0);
        due("without texts again", NONE, () -> x.house());
    }

    private static void toldBytes() {
        HouseManner x = CHECKS.with("aB =\n1;");
        x.turn(0, 0);
        String want = "a_b =\n1;";
        for (int k = 0; k < want.length(); k++) {
            int place = k;
            due("byte " + k, (int) want.charAt(k), () -> x.told(place));
        }
        x.turn(0, 1);
        due("a shorter one", NO_SUCH, () -> x.told(7));
        due("its last", 59, () -> x.told(6));
    }

    private static void toldHowMany() {
        HouseManner x = CHECKS.with("a =1;", "", "b=1;" + " ".repeat(796));
        due("none at first", 0, () -> x.told(-1));
        x.turn(0, 0);
        due("5", 5, () -> x.told(-1));
        x.turn(1, 0);
        due("none", 0, () -> x.told(-1));
        x.turn(2, 0);
        due("800", 800, () -> x.told(-1));
        x.lay(2);
        due("none without a style", 0, () -> x.told(-1));
    }

    private static void toldNone() {
        HouseManner x = CHECKS.with("a=1;", "b=1;" + " ".repeat(796));
        int[] never = {-2, -3, 2000, 2001, LEAST, LEAST + 1, GREATEST};
        for (int k : never) {
            due("new: byte " + k, NO_SUCH, () -> x.told(k));
        }
        due("new: byte 0", NO_SUCH, () -> x.told(0));
        x.turn(1, 0);
        due("byte 799", 32, () -> x.told(799));
        due("byte 800", NO_SUCH, () -> x.told(800));
        x.turn(0, 0);
        due("byte 3", 59, () -> x.told(3));
        due("byte 4", NO_SUCH, () -> x.told(4));
        due("byte 799 of the longer one before", NO_SUCH, () -> x.told(799));
        for (int k : never) {
            due("byte " + k, NO_SUCH, () -> x.told(k));
        }
    }

    private static void takeBecomes() {
        HouseManner x = new HouseManner();
        put(x, 7, 3, "if  rowOf{\n}  call f( );");
        x.find();
        due("turn", 25, () -> x.turn(7, 0));
        due("take", true, () -> x.take(7));
        due("bytes", 25, () -> x.about(7, 1));
        due("hand", 3, () -> x.about(7, 2));
        due("names", 0, () -> x.house());
        due("tests", 512 + 16 + 1, () -> x.gap(7, 0, 3));
        due("choice of all else", 3, () -> x.gap(7, 0, 1));
        due("lay", 22, () -> x.lay(7));
        due("take again", true, () -> x.take(7));
        due("bytes again", 22, () -> x.about(7, 1));
        due("choices anew", 1, () -> x.gap(7, 0, 1));
        due("tokens", 9, () -> x.about(7, 0));
        due("statements", 2, () -> x.about(7, 3));
        due("hand still", 3, () -> x.about(7, 2));
        due("seen anew", 0, () -> x.seen(15, 3));
        due("OUT stays", "if row_of{\n}call f( );".length(), () -> x.told(-1));
        due("fault() is of text() alone", NONE, () -> x.fault(1));
    }

    private static void takeEmpty() {
        HouseManner x = CHECKS.with("a=1;", "", " \n");
        due("nothing told yet", false, () -> x.take(0));
        x.lay(0);
        due("no style", false, () -> x.take(0));
        x.turn(1, 0);
        due("of an empty one", false, () -> x.take(1));
        x.find();
        x.lay(2);
        due("of blanks", false, () -> x.take(2));
        due("the blanks stay", 2, () -> x.about(2, 1));
        x.turn(2, 0);
        due("blanks are not empty", true, () -> x.take(2));
        due("nothing else changed", 4, () -> x.about(0, 1));
    }

    private static void takeTooLong() {
        HouseManner x = new HouseManner();
        String longest = deepText(x, 2000);
        put(x, 2, 1, longest);
        x.lay(2);
        due("2000", false, () -> x.take(2));
        due("the text stays", longest.length(), () -> x.about(2, 1));
        due("OUT stays", 2000, () -> x.told(-1));
        layOf(800, true);
        layOf(801, false);
        layOf(802, false);
        HouseManner y = CHECKS.with("aB=1;" + " ".repeat(794));
        y.turn(0, 0);
        due("turned to 800", true, () -> y.take(0));
        due("bytes", 800, () -> y.about(0, 1));
    }

    /** A text of 50 STATEMENTS, a BREAK of one byte in each GAP, laid just as long as is told. */
    private static void layOf(int bytes, boolean taken) {
        HouseManner x = new HouseManner();
        put(x, 0, 0, "a\n=\n1\n;\n".repeat(2) + "a=1;");
        x.find();
        StringBuilder text = new StringBuilder();
        int lacking = bytes - 49 * 8 - 7;
        for (int i = 0; i < 50; i++) {
            int longer = Math.max(0, Math.min(15, lacking));
            lacking -= longer;
            text.append("a".repeat(longer + 1)).append("=1;");
        }
        String before = text.toString();
        put(x, 1, 2, before);
        due("lay " + bytes, bytes, () -> x.lay(1));
        due("take " + bytes, taken, () -> x.take(1));
        due("bytes then", taken ? bytes : before.length(), () -> x.about(1, 1));
    }

    private static void takeLatest() {
        HouseManner x = CHECKS.with("aB = 1;", "c=1;");
        x.find();
        x.turn(0, 0);
        x.lay(0);
        due("what lay() told", 5, () -> x.told(-1));
        due("take", true, () -> x.take(0));
        due("is not turned", 1, () -> x.house());
        x.lay(0);
        x.turn(0, 0);
        due("what turn() told", true, () -> x.take(0));
        due("is turned", 0, () -> x.house());
        x.lay(0);
        x.lay(1);
        due("told of another latest", false, () -> x.take(0));
        x.lay(0);
        due("told of it latest", true, () -> x.take(0));
        x.lay(0);
        due("a refused one tells nothing", NO_SUCH, () -> x.lay(5));
        due("so it is the latest still", true, () -> x.take(0));
        due("once", false, () -> x.take(0));
    }

    private static void takeOfAnother() {
        HouseManner x = CHECKS.with("a = 1;", "a = 1;", "a = 1;");
        x.find();
        x.lay(1);
        due("0", false, () -> x.take(0));
        due("2", false, () -> x.take(2));
        due("1", true, () -> x.take(1));
        x.turn(2, 1);
        due("0 turned", false, () -> x.take(0));
        due("1 turned", false, () -> x.take(1));
        due("2 turned", true, () -> x.take(2));
    }

    private static void takeAsItStillIs() {
        HouseManner x = CHECKS.with("aB=1;", "b=1;");
        x.turn(0, 0);
        put(x, 0, 0, "c=1;");
        due("another text", false, () -> x.take(0));
        due("it stays", 4, () -> x.about(0, 1));
        x.turn(0, 0);
        due("an illegal text()", ILLEGAL, () -> x.text(0, 0, 99));
        put(x, 0, 0, "c=;");
        put(x, 1, 0, "d=1;");
        put(x, 2, 0, "e=1;");
        x.drop(1);
        x.find();
        x.price(0, 9);
        due("none of these changes it", true, () -> x.take(0));
        x.turn(0, 0);
        x.drop(0);
        due("gone", NO_SUCH, () -> x.take(0));
        put(x, 0, 0, "f=1;");
        due("a new one", false, () -> x.take(0));
        due("OUT is told still", "c=1;", () -> Checks.out(x));
        put(x, 0, 0, "gH=1;");
        x.turn(0, 0);
        due("taken", true, () -> x.take(0));
        due("it is another one then", false, () -> x.take(0));
        x.turn(2, 0);
        due("of one that changed twice before", true, () -> x.take(2));
    }

    private static void takeNoText() {
        HouseManner x = CHECKS.with("a=1;");
        x.turn(0, 0);
        for (int t : NO_TEXTS) {
            due("take(" + t, NO_SUCH, () -> x.take(t));
        }
        due("never one", NO_SUCH, () -> x.take(1));
        due("the text can be taken still", true, () -> x.take(0));
    }

    private static void alikeTokens() {
        HouseManner x = CHECKS.with("", " \n", "a=1;", " a\n= 1 ;", "a=01;", "A=1;", "a=1;a=1;", "a=b;", "b=a;",
                "aa=1;");
        int[] group = {0, 0, 1, 1, 2, 3, 4, 5, 6, 7};
        for (int t = 0; t < group.length; t++) {
            for (int u = 0; u < group.length; u++) {
                int one = t;
                int other = u;
                due("alike " + t + " " + u, group[t] == group[u], () -> x.alike(one, other));
            }
        }
        put(x, 10, 0, "if a{b=1;}");
        put(x, 11, 3, "if a {\n  b = 1;\n}");
        due("of two hands", true, () -> x.alike(10, 11));
        String full = "a=1;".repeat(49) + "a=";
        put(x, 10, 0, full + "1;");
        put(x, 11, 0, full + "2;");
        due("unlike at the end", false, () -> x.alike(10, 11));
        put(x, 11, 0, full + " 1\n;");
        due("200 tokens alike", true, () -> x.alike(10, 11));
    }

    private static void alikeNoTexts() {
        HouseManner x = CHECKS.with("a=1;", "");
        for (int t : NO_TEXTS) {
            due("alike(" + t + ", 0)", NO_SUCH, () -> x.alike(t, 0));
            due("alike(0, " + t + ")", NO_SUCH, () -> x.alike(0, t));
            due("alike(" + t + ", " + t + ")", NO_SUCH, () -> x.alike(t, t));
        }
        due("never one", NO_SUCH, () -> x.alike(0, 2));
        due("never one ahead", NO_SUCH, () -> x.alike(2, 0));
        due("never one with itself", NO_SUCH, () -> x.alike(2, 2));
        x.drop(1);
        due("gone", NO_SUCH, () -> x.alike(0, 1));
        due("gone ahead", NO_SUCH, () -> x.alike(1, 0));
    }
}
