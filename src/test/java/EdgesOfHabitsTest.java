/** "Terms", "==== 2" and "==== 3": each sentence on GAPS and HABITS that names an edge, by itself. */
public final class EdgesOfHabitsTest {
    private static final Checks CHECKS = new Checks();
    private static final int KIND = 0;
    private static final int CHOICE = 1;
    private static final int DEPTH = 2;
    private static final int BITS = 3;

    public static void main(String[] args) {
        CHECKS.sentence("A GAP is between two TOKENS side by side", EdgesOfHabitsTest::gapsOfText);
        CHECKS.sentence("DEPTH: in how many BLOCKS the second one is", EdgesOfHabitsTest::depth);
        CHECKS.sentence("(a { or } isn't in its own)", EdgesOfHabitsTest::depthOfBlockSigns);
        CHECKS.sentence("CHOICE: 0 nothing stands there; 1 one blank (32)", EdgesOfHabitsTest::smallChoices);
        CHECKS.sentence("CHOICE: 2 a BREAK: 10 and then twice as many blanks (32) as its DEPTH",
                EdgesOfHabitsTest::breaks);
        CHECKS.sentence("CHOICE: 3 all else", EdgesOfHabitsTest::allElse);
        CHECKS.sentence("KIND, the first that holds", EdgesOfHabitsTest::firstKind);
        CHECKS.sentence("KIND 15 all others", EdgesOfHabitsTest::otherKinds);
        CHECKS.sentence("TESTS: 0 its DEPTH is 0; 1 it is 2 or more", EdgesOfHabitsTest::testsOfDepth);
        CHECKS.sentence("TESTS: 2 to 5 the innermost STATEMENT of which the first one is",
                EdgesOfHabitsTest::testsOfStatement);
        CHECKS.sentence("TESTS: an if (its else, too)", EdgesOfHabitsTest::testsOfElse);
        CHECKS.sentence("TESTS: 6 to 9 the text's HAND is 0 to 3", EdgesOfHabitsTest::testsOfHand);
        CHECKS.sentence("a row of at most two .. TESTS", EdgesOfHabitsTest::twoTestsAtMost);
        CHECKS.sentence("TESTS, 0 to 9: each of them by itself", EdgesOfHabitsTest::eachTestAlone);
        CHECKS.sentence("TESTS, 0 to 9: the first and the last as a second one", EdgesOfHabitsTest::edgesAsSecondTest);
        CHECKS.sentence("two unlike TESTS", EdgesOfHabitsTest::unlikeTests);
        CHECKS.sentence("(all 0 to 2)", EdgesOfHabitsTest::neverTellsAllElse);
        CHECKS.sentence("the CHOICE of the first of its TESTS that holds there", EdgesOfHabitsTest::firstTest);
        CHECKS.sentence("else the last one", EdgesOfHabitsTest::lastChoice);
        CHECKS.sentence("where two WORDS or NUMBERS would stand side by side 1 in place of 0",
                EdgesOfHabitsTest::keptApart);
        CHECKS.sentence("EXCEPTIONS: GAPS of its KIND, of all TEXTS", EdgesOfHabitsTest::exceptionsOfAllTexts);
        CHECKS.sentence("COST: PRICE 0 (5 at first) for each TEST, PRICE 1 (2) for each EXCEPTION",
                EdgesOfHabitsTest::firstPrices);
        CHECKS.sentence("COST: a PRICE of 0, a PRICE of 100", EdgesOfHabitsTest::leastAndGreatestPrices);
        CHECKS.sentence("FOUND: that of the least COST", EdgesOfHabitsTest::leastCost);
        CHECKS.sentence("of like ones the one of fewer TESTS", EdgesOfHabitsTest::fewerTests);
        CHECKS.sentence("then that whose row .. is first: TEST", EdgesOfHabitsTest::firstTestFirst);
        CHECKS.sentence("then that whose row .. is first: its CHOICE", EdgesOfHabitsTest::firstChoiceFirst);
        CHECKS.sentence("then that whose row .. is first: the second TEST", EdgesOfHabitsTest::secondTestFirst);
        CHECKS.sentence("then that whose row .. is first: its CHOICE, too", EdgesOfHabitsTest::secondChoiceFirst);
        CHECKS.sentence("then that whose row .. is first: the last CHOICE", EdgesOfHabitsTest::lastChoiceFirst);
        CHECKS.sentence("What is FOUND for all KINDS is kept as THE STYLE", EdgesOfHabitsTest::styleIsKept);
        CHECKS.sentence("LAID: in each GAP what its KIND's HABIT TELLS", EdgesOfHabitsTest::laidInEachGap);
        CHECKS.sentence("(nothing ahead of the first one, or behind the last one)", EdgesOfHabitsTest::laidEnds);
        CHECKS.end();
    }

    private static void gapsOfText() {
        CHECKS.gapsAre("", KIND);
        CHECKS.gapsAre(" \n ", KIND);
        CHECKS.gapsAre("a=1;", CHOICE, 0, 0, 0);
        CHECKS.gapsAre("  a=1;\n", CHOICE, 0, 0, 0);
        CHECKS.gapsAre("\na =1; ", CHOICE, 1, 0, 0);
        HouseManner x = CHECKS.with("a=1;b=2;");
        CHECKS.due("the first", 11, () -> x.gap(0, 0, KIND));
        CHECKS.due("none ahead of it", Checks.NO_SUCH, () -> x.gap(0, -1, KIND));
        CHECKS.due("the last", 0, () -> x.gap(0, 6, KIND));
        CHECKS.due("none behind it", Checks.NO_SUCH, () -> x.gap(0, 7, KIND));
    }

    /** Behind so many BLOCKS, each of three TOKENS, "b" and "=" stand; between them is the GAP. */
    private static String inBlocks(int depth, String between) {
        return "if a{".repeat(depth) + "b" + between + "=1;" + "}".repeat(depth);
    }

    private static int gapBehindName(int depth) {
        return 3 * depth;
    }

    private static void depth() {
        for (int depth = 0; depth <= 6; depth++) {
            int want = depth;
            HouseManner x = CHECKS.with(inBlocks(depth, ""));
            CHECKS.due("depth in " + depth + " blocks", want, () -> x.gap(0, gapBehindName(want), DEPTH));
        }
        CHECKS.gapsAre("while a{b=(1);}", DEPTH, 0, 0, 1, 1, 1, 1, 1, 1, 0);
        CHECKS.gapsAre("if(a){}call f((b));", DEPTH, 0, 0, 0, 0, 0, 0, 0, 0, 0, 0, 0, 0, 0);
    }

    private static void depthOfBlockSigns() {
        CHECKS.gapsAre("if a{}", DEPTH, 0, 0, 0);
        CHECKS.gapsAre("if a{}else{}b=1;", DEPTH, 0, 0, 0, 0, 0, 0, 0, 0, 0, 0);
        CHECKS.gapsAre("while a{while b{}}", DEPTH, 0, 0, 1, 1, 1, 1, 0);
        CHECKS.gapsAre("if a{b=1;}", DEPTH, 0, 0, 1, 1, 1, 1, 0);
        CHECKS.gapsAre("if a{if b{}else{c=1;}}", DEPTH, 0, 0, 1, 1, 1, 1, 1, 1, 2, 2, 2, 2, 1, 0);
        CHECKS.gapsAre("if a\n{\n}\nelse\n{\n}", CHOICE, 1, 2, 2, 2, 2, 2);
        CHECKS.gapsAre("if a\n  {\n  }", CHOICE, 1, 3, 3);
        CHECKS.gapsAre("if a{if b\n  {\n  }\n}", CHOICE, 1, 0, 0, 1, 2, 2, 2);
        CHECKS.gapsAre("if a{if b\n    {\n    }\n  }", CHOICE, 1, 0, 0, 1, 3, 3, 3);
    }

    private static void choiceIs(int depth, String between, int want) {
        HouseManner x = CHECKS.with(inBlocks(depth, between));
        CHECKS.due("choice of " + between.replace("\n", "/").replace(" ", ".") + " in " + depth + " blocks", want,
                () -> x.gap(0, gapBehindName(depth), CHOICE));
    }

    private static void smallChoices() {
        for (int depth = 0; depth <= 6; depth++) {
            choiceIs(depth, "", 0);
            choiceIs(depth, " ", 1);
        }
    }

    private static void breaks() {
        for (int depth = 0; depth <= 6; depth++) {
            String just = "\n" + "  ".repeat(depth);
            choiceIs(depth, just, 2);
            choiceIs(depth, just + " ", 3);
            choiceIs(depth, just + "  ", 3);
            if (depth > 0) {
                choiceIs(depth, just.substring(0, just.length() - 1), 3);
                choiceIs(depth, just.substring(0, just.length() - 2), 3);
                choiceIs(depth, "\n", 3);
            }
        }
    }

    private static void allElse() {
        for (int depth = 0; depth <= 6; depth++) {
            String just = "\n" + "  ".repeat(depth);
            choiceIs(depth, "  ", 3);
            choiceIs(depth, "\n\n", 3);
            choiceIs(depth, " " + just, 3);
            choiceIs(depth, just + "\n", 3);
            choiceIs(depth, "\n" + just, 3);
            choiceIs(depth, just + just, 3);
            choiceIs(depth, " \n", 3);
            if (depth > 0) {
                choiceIs(depth, " ".repeat(2 * depth + 1), 3);
                choiceIs(depth, "\n".repeat(2 * depth + 1), 3);
                choiceIs(depth, " ".repeat(2 * depth) + "\n", 3);
                choiceIs(depth, just.substring(0, just.length() - 1) + "\n", 3);
                choiceIs(depth, "\n\n" + just.substring(2), 3);
            }
        }
    }

    private static void kindIs(String text, int gap, int want) {
        HouseManner x = CHECKS.with(text);
        CHECKS.due("kind of gap " + gap + " of " + text, want, () -> x.gap(0, gap, KIND));
    }

    /** All pairs of TOKENS that the grammar lets stand where two KINDS hold, each both ways. */
    private static void firstKind() {
        kindIs("if a{b=1;}", 6, 1);
        kindIs("if a{b=1;}", 5, 0);
        kindIs("if a{}", 2, 2);
        kindIs("if a{b=1;c=1;}", 6, 1);
        kindIs("if a{if b{}}", 6, 3);
        kindIs("if a{}b=1;", 3, 4);
        kindIs("call f(1,(2));", 4, 7);
        kindIs("call f((1),2);", 5, 6);
        kindIs("call f();", 2, 8);
        kindIs("a=((1));", 2, 8);
        kindIs("a=((1));", 4, 9);
        kindIs("a=(1);", 1, 10);
        kindIs("a=1+(1);", 3, 10);
        kindIs("a=1-(1);", 3, 10);
        kindIs("a=1<(1);", 3, 10);
        kindIs("if(1){}", 0, 10);
        kindIs("a=(1)+1;", 4, 13);
        kindIs("if(1){}", 3, 5);
        kindIs("a=(1);", 4, 0);
        kindIs("call f((1));", 5, 9);
    }

    private static void otherKinds() {
        kindIs("call f();", 0, 15);
        kindIs("if a{}", 0, 15);
        kindIs("while a{}", 0, 15);
        kindIs("if 1{}", 0, 15);
        kindIs("while 1{}", 0, 15);
        CHECKS.gapsAre("if a+1-b<2{}else{c=d;}", KIND, 15, 13, 14, 13, 14, 13, 14, 5, 2, 4, 5, 2, 11, 12, 0, 1);
    }

    private static void bitsAre(HouseManner x, int t, int gap, int want) {
        CHECKS.due("tests of gap " + gap + " of text " + t, want, () -> x.gap(t, gap, BITS));
    }

    private static void testsOfDepth() {
        for (int depth = 0; depth <= 6; depth++) {
            HouseManner x = CHECKS.with(inBlocks(depth, ""));
            bitsAre(x, 0, gapBehindName(depth), 64 + 4 + (depth == 0 ? 1 : depth == 1 ? 0 : 2));
        }
        HouseManner x = CHECKS.with("if a{while b{c=1;}}");
        bitsAre(x, 0, 2, 64 + 16);
        bitsAre(x, 0, 4, 64 + 32);
        bitsAre(x, 0, 5, 64 + 32 + 2);
        bitsAre(x, 0, 9, 64 + 4);
        bitsAre(x, 0, 10, 64 + 32 + 1);
    }

    /** 4: a NAME's, 8: a call, 16: an if, 32: a while; the bits of DEPTH and HAND are left out. */
    private static void statementsAre(String text, int... want) {
        HouseManner x = CHECKS.with(text);
        for (int i = 0; i < want.length; i++) {
            int gap = i;
            CHECKS.due("statement at gap " + i + " of " + text, want[i], () -> x.gap(0, gap, BITS) & 60);
        }
        CHECKS.due("no more", Checks.NO_SUCH, () -> x.gap(0, want.length, BITS));
    }

    private static void testsOfStatement() {
        statementsAre("a=1;call f();", 4, 4, 4, 4, 8, 8, 8, 8);
        statementsAre("if a{b=1;}c=2;", 16, 16, 16, 4, 4, 4, 4, 16, 4, 4, 4);
        statementsAre("while a{call b(1);}", 32, 32, 32, 8, 8, 8, 8, 8, 8);
        statementsAre("if a{while b{}}", 16, 16, 16, 32, 32, 32, 32);
        statementsAre("while a{if b{}}call f();", 32, 32, 32, 16, 16, 16, 16, 32, 8, 8, 8, 8);
        statementsAre("if(a){}while(b){}", 16, 16, 16, 16, 16, 16, 32, 32, 32, 32, 32);
    }

    private static void testsOfElse() {
        statementsAre("if a{}else{}b=1;", 16, 16, 16, 16, 16, 16, 16, 4, 4, 4);
        statementsAre("if a{b=1;}else{call c();}", 16, 16, 16, 4, 4, 4, 4, 16, 16, 16, 8, 8, 8, 8, 8);
        statementsAre("while a{if b{}else{while c{}}}", 32, 32, 32, 16, 16, 16, 16, 16, 16, 32, 32, 32, 32, 16);
    }

    private static void testsOfHand() {
        HouseManner x = new HouseManner();
        for (int hand = 0; hand < 4; hand++) {
            Checks.put(x, hand, hand, "if a{b=1;}");
            bitsAre(x, hand, 0, (64 << hand) + 16 + 1);
            bitsAre(x, hand, 3, (64 << hand) + 4);
        }
        Checks.put(x, 3, 0, "if a{b=1;}");
        bitsAre(x, 3, 0, 64 + 16 + 1);
    }

    /** A STATEMENT "b=1;", with the told blanks ahead of the "=", so many times. */
    private static String assigned(String blanks, int times) {
        return ("b" + blanks + "=1;").repeat(times);
    }

    private static void found(HouseManner x, int priceOfTest, int priceOfException, int... row) {
        x.price(0, priceOfTest);
        x.price(1, priceOfException);
        x.find();
        CHECKS.habitIs(x, 11, row);
    }

    /** At DEPTH 0 all hands choose 1, in a BLOCK each its own: only three TESTS would tell all. */
    private static void twoTestsAtMost() {
        HouseManner x = new HouseManner();
        String[] inner = {"", " ", "\n  "};
        for (int hand = 0; hand < 3; hand++) {
            Checks.put(x, hand, hand, assigned(" ", 1) + "if a{" + assigned(inner[hand], 2) + "}");
        }
        found(x, 0, 2, 2, 0, 1, 6, 0, 1, 4, 2);
        found(x, 1, 2, 2, 0, 1, 6, 0, 1, 6, 2);
        CHECKS.due("exceptions of all", 2, () -> exceptionsOf(x, 11));
    }

    private static int exceptionsOf(HouseManner x, int kind) {
        int sum = 0;
        for (int t = 0; t < 3; t++) {
            for (int i = 0; i < x.exception(t, -1); i++) {
                sum += x.gap(t, x.exception(t, i), KIND) == kind ? 1 : 0;
            }
        }
        return sum;
    }

    /** Where one TEST holds the house puts a blank, elsewhere none: the HABIT goes by that TEST. */
    private static void eachTestAlone() {
        String plain = "a=1;b=1;";
        String blank = "a=1 ;b=1 ;";
        aloneIs(0, 0, 0, blank + "if a{" + plain + "if a{" + plain + "}}");
        aloneIs(1, 0, 0, plain + "if a{" + plain + "if a{" + blank + "}}");
        String[] heads = {"a=(1);", "call f();", "if(a){}", "while(a){}"};
        for (int sort = 0; sort < 4; sort++) {
            StringBuilder text = new StringBuilder();
            for (int i = 0; i < 4; i++) {
                text.append((i == sort ? heads[i].replace("(", " (") : heads[i]).repeat(2));
            }
            aloneIs(2 + sort, 10, 0, text.toString());
        }
        for (int hand = 0; hand < 4; hand++) {
            HouseManner x = new HouseManner();
            for (int t = 0; t < 4; t++) {
                Checks.put(x, t, t, t == hand ? blank : plain);
            }
            toldByOne(x, 6 + hand, 0);
            laidBehind(x, hand, plain, blank);
            laidBehind(x, (hand + 1) % 4, blank, plain);
        }
    }

    private static void aloneIs(int test, int kind, int hand, String text) {
        HouseManner x = new HouseManner();
        Checks.put(x, 0, hand, text);
        toldByOne(x, test, kind);
        laidBehind(x, hand, text.replace(" ;", ";").replace(" (", "("), text);
        laidBehind(x, hand, text, text);
    }

    private static void toldByOne(HouseManner x, int test, int kind) {
        x.price(0, 1);
        CHECKS.due("find for test " + test, 1, () -> x.find());
        CHECKS.habitIs(x, kind, 1, test, 1, -1, -1, 0, 1, 0);
    }

    private static void laidBehind(HouseManner x, int hand, String text, String want) {
        CHECKS.due("text", 0, () -> Checks.put(x, 11, hand, text));
        CHECKS.due("lay " + text, want.length(), () -> x.lay(11));
        CHECKS.due("laid " + text, want, () -> Checks.out(x));
        CHECKS.due("exceptions of " + text, text.equals(want), () -> x.exception(11, -1) == 0);
        x.drop(11);
    }

    private static void edgesAsSecondTest() {
        HouseManner x = new HouseManner();
        Checks.put(x, 0, 0, assigned("", 2) + "if a{" + assigned("", 2) + "}");
        Checks.put(x, 1, 1, assigned(" ", 2) + "if a{" + assigned("\n  ", 2) + "}");
        found(x, 1, 2, 2, 6, 0, 0, 1, 2, 2, 0);
        HouseManner y = new HouseManner();
        for (int hand = 0; hand < 3; hand++) {
            Checks.put(y, hand, hand, assigned("", 2) + "if a{" + assigned("\n  ", 2) + "}");
        }
        Checks.put(y, 3, 3, assigned("", 2) + "if a{" + assigned(" ", 2) + "}");
        found(y, 1, 2, 2, 0, 0, 9, 1, 2, 2, 0);
    }

    private static void unlikeTests() {
        HouseManner x = new HouseManner();
        Checks.put(x, 0, 0, assigned("", 3) + assigned(" ", 2) + assigned("\n", 1));
        found(x, 0, 2, 0, -1, -1, -1, -1, 0, 6, 3);
        Checks.put(x, 1, 1, assigned(" ", 3) + assigned("", 1));
        found(x, 0, 2, 1, 6, 0, -1, -1, 1, 8, 4);
    }

    private static void neverTellsAllElse() {
        HouseManner x = CHECKS.with(assigned("  ", 9));
        found(x, 0, 1, 0, -1, -1, -1, -1, 0, 9, 9);
        Checks.put(x, 1, 1, assigned("\n", 1));
        found(x, 0, 1, 0, -1, -1, -1, -1, 2, 9, 9);
        Checks.put(x, 2, 0, assigned(" ", 1));
        found(x, 0, 1, 1, 6, 1, -1, -1, 2, 9, 9);
        CHECKS.due("nothing but exceptions", 9, () -> x.exception(0, -1));
    }

    private static void firstTest() {
        HouseManner x = new HouseManner();
        Checks.put(x, 0, 0, assigned(" ", 2) + "if a{" + assigned("", 2) + "}");
        Checks.put(x, 1, 1, assigned(" ", 2) + "if a{" + assigned("\n  ", 2) + "}");
        found(x, 1, 2, 2, 0, 1, 6, 0, 2, 2, 0);
        Checks.put(x, 2, 0, assigned("", 1) + "if a{" + assigned("", 1) + "}");
        CHECKS.due("where both hold the first one tells", 1, () -> x.exception(2, -1));
        CHECKS.due("which", 0, () -> x.exception(2, 0));
        CHECKS.due("laid", "b =1;if a{b=1;}".length(), () -> x.lay(2));
        CHECKS.due("as", "b =1;if a{b=1;}", () -> Checks.out(x));
    }

    private static void lastChoice() {
        HouseManner x = new HouseManner();
        Checks.put(x, 0, 1, assigned("", 4));
        Checks.put(x, 1, 2, assigned(" ", 4));
        Checks.put(x, 2, 3, assigned("\n", 4));
        found(x, 1, 2, 2, 7, 0, 8, 1, 2, 2, 0);
        Checks.put(x, 3, 0, assigned("", 1));
        CHECKS.due("where no test holds", "b\n=1;", () -> {
            x.lay(3);
            return Checks.out(x);
        });
    }

    private static void keptApart() {
        HouseManner x = CHECKS.with("if a{}while 1{}call f();");
        CHECKS.due("find", 0, () -> x.find());
        CHECKS.habitIs(x, 15, 0, -1, -1, -1, -1, 0, 0, 0);
        CHECKS.due("no exceptions", 0, () -> x.exception(0, -1));
        CHECKS.due("laid", 24, () -> x.lay(0));
        CHECKS.due("as it was", "if a{}while 1{}call f();", () -> Checks.out(x));
        HouseManner y = CHECKS.with("if\na{}while\n1{}call f();");
        CHECKS.due("find breaks", 2, () -> y.find());
        CHECKS.habitIs(y, 15, 0, -1, -1, -1, -1, 2, 2, 1);
        CHECKS.due("an exception", 8, () -> y.exception(0, 0));
        HouseManner z = CHECKS.with("if a{}", "call f();", "if  a{}while  1{}");
        CHECKS.due("find among all else", 4, () -> z.find());
        CHECKS.habitIs(z, 15, 0, -1, -1, -1, -1, 0, 4, 2);
        CHECKS.due("laid behind an else", "if a{}else{}if 1{}", () -> {
            Checks.put(z, 3, 0, " if\na  {} else\n{ }if  1{}");
            z.lay(3);
            return Checks.out(z);
        });
    }

    private static void exceptionsOfAllTexts() {
        HouseManner x = new HouseManner();
        for (int t = 0; t < 12; t++) {
            Checks.put(x, t, 0, assigned(t < 7 ? " " : "", 1) + "if a {}".repeat(t % 2));
        }
        CHECKS.due("find", 10, () -> x.find());
        CHECKS.habitIs(x, 11, 0, -1, -1, -1, -1, 1, 10, 5);
        CHECKS.habitIs(x, 5, 0, -1, -1, -1, -1, 1, 0, 0);
        x.drop(0);
        x.drop(6);
        x.drop(3);
        CHECKS.due("without three of them", 8, () -> x.find());
        CHECKS.habitIs(x, 11, 0, -1, -1, -1, -1, 0, 8, 4);
    }

    private static void firstPrices() {
        HouseManner x = new HouseManner();
        Checks.put(x, 0, 0, assigned("", 2));
        Checks.put(x, 1, 1, assigned(" ", 2));
        CHECKS.due("two exceptions", 4, () -> x.find());
        CHECKS.habitIs(x, 11, 0, -1, -1, -1, -1, 0, 4, 2);
        Checks.put(x, 0, 0, assigned("", 3));
        Checks.put(x, 1, 1, assigned(" ", 3));
        CHECKS.due("a test", 5, () -> x.find());
        CHECKS.habitIs(x, 11, 1, 6, 0, -1, -1, 1, 5, 0);
        Checks.put(x, 2, 2, assigned("\n", 2));
        CHECKS.due("a test and two exceptions", 9, () -> x.find());
        CHECKS.habitIs(x, 11, 1, 6, 0, -1, -1, 1, 9, 2);
        Checks.put(x, 2, 2, assigned("\n", 3));
        CHECKS.due("two tests", 10, () -> x.find());
        CHECKS.habitIs(x, 11, 2, 6, 0, 7, 1, 2, 10, 0);
    }

    private static void leastAndGreatestPrices() {
        HouseManner x = new HouseManner();
        Checks.put(x, 0, 0, assigned("\n", 3));
        Checks.put(x, 1, 1, assigned(" ", 2));
        found(x, 100, 0, 0, -1, -1, -1, -1, 0, 0, 5);
        found(x, 0, 0, 0, -1, -1, -1, -1, 0, 0, 5);
        found(x, 0, 100, 1, 6, 2, -1, -1, 1, 0, 0);
        found(x, 100, 100, 1, 6, 2, -1, -1, 1, 100, 0);
        found(x, 100, 50, 0, -1, -1, -1, -1, 2, 100, 2);
        found(x, 100, 51, 1, 6, 2, -1, -1, 1, 100, 0);
        found(x, 1, 0, 0, -1, -1, -1, -1, 0, 0, 5);
        found(x, 0, 1, 1, 6, 2, -1, -1, 1, 0, 0);
    }

    private static void leastCost() {
        HouseManner x = CHECKS.with(assigned("", 1) + assigned(" ", 2) + assigned("\n", 3));
        found(x, 5, 2, 0, -1, -1, -1, -1, 2, 6, 3);
        HouseManner y = new HouseManner();
        Checks.put(y, 0, 3, "if a{if b{" + assigned("\n    ", 9) + "}" + assigned("", 9) + "}" + assigned(" ", 9));
        found(y, 5, 2, 2, 0, 1, 1, 2, 0, 10, 0);
        Checks.put(y, 0, 3, "if a{if b{" + assigned("\n    ", 9) + "}" + assigned("", 9) + "}" + assigned(" ", 2));
        found(y, 5, 2, 1, 1, 2, -1, -1, 0, 9, 2);
    }

    private static void fewerTests() {
        HouseManner x = new HouseManner();
        Checks.put(x, 0, 0, assigned("", 3));
        Checks.put(x, 1, 1, assigned(" ", 2));
        found(x, 4, 2, 0, -1, -1, -1, -1, 0, 4, 2);
        found(x, 3, 2, 1, 6, 0, -1, -1, 1, 3, 0);
        Checks.put(x, 2, 2, assigned("\n", 1));
        found(x, 2, 2, 1, 6, 0, -1, -1, 1, 4, 1);
        found(x, 1, 2, 2, 6, 0, 7, 1, 2, 2, 0);
        Checks.put(x, 2, 2, "");
        found(x, 0, 2, 1, 6, 0, -1, -1, 1, 0, 0);
        Checks.put(x, 1, 1, "");
        found(x, 0, 2, 0, -1, -1, -1, -1, 0, 0, 0);
    }

    private static void firstTestFirst() {
        HouseManner x = new HouseManner();
        Checks.put(x, 0, 3, assigned("", 2));
        Checks.put(x, 1, 2, assigned(" ", 2));
        found(x, 0, 2, 1, 8, 1, -1, -1, 0, 0, 0);
        Checks.put(x, 1, 2, "if a{" + assigned(" ", 2) + "}");
        found(x, 0, 2, 1, 0, 0, -1, -1, 1, 0, 0);
        Checks.put(x, 0, 3, "if a{if a{" + assigned("", 2) + "}}");
        found(x, 0, 2, 1, 1, 0, -1, -1, 1, 0, 0);
    }

    private static void firstChoiceFirst() {
        HouseManner x = new HouseManner();
        Checks.put(x, 0, 1, assigned(" ", 3) + assigned("\n", 3));
        Checks.put(x, 1, 0, assigned("", 4));
        Checks.put(x, 2, 2, assigned("", 4));
        found(x, 0, 2, 1, 7, 1, -1, -1, 0, 6, 3);
        Checks.put(x, 0, 1, assigned("\n", 3) + assigned(" ", 3));
        found(x, 0, 2, 1, 7, 1, -1, -1, 0, 6, 3);
    }

    private static void secondTestFirst() {
        HouseManner x = new HouseManner();
        Checks.put(x, 0, 0, assigned("\n", 2));
        Checks.put(x, 1, 1, assigned("", 2));
        Checks.put(x, 2, 2, assigned(" ", 2));
        found(x, 0, 2, 2, 6, 2, 7, 0, 1, 0, 0);
        HouseManner y = new HouseManner();
        Checks.put(y, 0, 3, assigned("\n", 2));
        Checks.put(y, 1, 2, "if a{" + assigned("", 2) + "}");
        Checks.put(y, 2, 2, "if a{if a{" + assigned(" ", 2) + "}}");
        found(y, 0, 2, 2, 0, 2, 1, 1, 0, 0, 0);
    }

    /** Hands 2 and 3 have to go by the last CHOICE, for no one TEST holds for both. */
    private static void secondChoiceFirst() {
        HouseManner x = new HouseManner();
        Checks.put(x, 0, 0, assigned(" ", 3));
        Checks.put(x, 1, 1, assigned(" ", 1) + assigned("", 1));
        Checks.put(x, 2, 2, assigned("\n", 3));
        Checks.put(x, 3, 3, assigned("\n", 3));
        found(x, 0, 2, 2, 6, 1, 7, 0, 2, 2, 1);
    }

    private static void lastChoiceFirst() {
        found(CHECKS.with(assigned(" ", 2) + assigned("", 2)), 5, 2, 0, -1, -1, -1, -1, 0, 4, 2);
        found(CHECKS.with(assigned("\n", 2) + assigned(" ", 2)), 5, 2, 0, -1, -1, -1, -1, 1, 4, 2);
        found(CHECKS.with(assigned("\n", 2) + assigned("", 2)), 5, 2, 0, -1, -1, -1, -1, 0, 4, 2);
        found(CHECKS.with(assigned("\n", 2) + assigned(" ", 2) + assigned("", 2)), 5, 2, 0, -1, -1, -1, -1, 0, 8, 4);
        found(CHECKS.with(assigned("\n", 3) + assigned(" ", 2) + assigned("", 2)), 5, 2, 0, -1, -1, -1, -1, 2, 8, 4);
    }

    private static void styleIsKept() {
        HouseManner x = CHECKS.with(assigned(" ", 2));
        CHECKS.due("find", 0, () -> x.find());
        for (int kind = 0; kind < 16; kind++) {
            CHECKS.habitIs(x, kind, 0, -1, -1, -1, -1, kind == 11 ? 1 : 0, 0, 0);
        }
        Checks.put(x, 0, 0, assigned("\n", 2));
        Checks.put(x, 1, 1, assigned("", 5));
        x.price(0, 0);
        x.price(1, 100);
        x.lay(0);
        x.take(0);
        x.drop(1);
        for (int kind = 0; kind < 16; kind++) {
            CHECKS.habitIs(x, kind, 0, -1, -1, -1, -1, kind == 11 ? 1 : 0, 0, 0);
        }
    }

    private static void laidInEachGap() {
        HouseManner x = CHECKS.with("if a{\n  b =1;\n  call f(1, 2);\n}\nwhile c< 3{\n}");
        x.find();
        CHECKS.due("no exceptions", 0, () -> x.exception(0, -1));
        Checks.put(x, 1, 0, "while\nx\n<y{while 1{call g (a ,b);}}if(a){ }else { c\n= (d);}");
        String want = "while x< y{\n  while 1{\n    call g(a, b);\n  }}\nif(a){\n}\nelse{\n  c =(d);\n}";
        CHECKS.due("how many bytes", want.length(), () -> x.lay(1));
        CHECKS.due("laid", want, () -> Checks.out(x));
    }

    private static void laidEnds() {
        HouseManner x = CHECKS.with(" \n a=1; \n", "\n\n", "");
        x.find();
        CHECKS.due("laid", 4, () -> x.lay(0));
        CHECKS.due("as", "a=1;", () -> Checks.out(x));
        CHECKS.due("blanks alone", 0, () -> x.lay(1));
        CHECKS.due("OUT is empty", 0, () -> x.told(-1));
        CHECKS.due("no byte at all", 0, () -> x.lay(2));
        Checks.put(x, 3, 0, "\n  if a{\n  b=1;\n  }\n  ");
        x.find();
        CHECKS.due("breaks laid", "if a{\n  b=1;}", () -> {
            x.lay(3);
            return Checks.out(x);
        });
    }
}
