/** "Terms", "==== 1": each sentence on the small language that names an edge, by itself. */
public final class EdgesOfLanguageTest {
    private static final Checks CHECKS = new Checks();

    private static final String SMALL = "abcdefghijklmnopqrstuvwxyz";
    private static final String LETTERS = SMALL + "ABCDEFGHIJKLMNOPQRSTUVWXYZ";
    private static final String DIGITS = "0123456789";
    private static final String[] KEYWORDS = {"if", "else", "while", "call"};
    /** One TOKEN of each sort. */
    private static final String[] TOKENS = {"n", "7", "if", "else", "while", "call",
        "=", "+", "-", "<", "(", ")", "{", "}", ",", ";"};

    public static void main(String[] args) {
        CHECKS.sentence("TEXTS .. of at most 800 bytes", EdgesOfLanguageTest::bytesOfText);
        CHECKS.sentence("WORDS (a letter, ..", EdgesOfLanguageTest::firstOfWord);
        CHECKS.sentence("WORDS (.. then letters, digits, _ ;", EdgesOfLanguageTest::restOfWord);
        CHECKS.sentence("WORDS (.. at most 16)", EdgesOfLanguageTest::longWords);
        CHECKS.sentence("NUMBERS (1 to 6 digits)", EdgesOfLanguageTest::longNumbers);
        CHECKS.sentence("signs = + - < ( ) { } , ;", EdgesOfLanguageTest::signs);
        CHECKS.sentence("blanks (32, 10) stand between them", EdgesOfLanguageTest::blanks);
        CHECKS.sentence("KEYWORDS, no NAMES: if else while call", EdgesOfLanguageTest::keywords);
        CHECKS.sentence("TEXT: STATEMENT*", EdgesOfLanguageTest::noStatement);
        CHECKS.sentence("'(' [EXPR (',' EXPR)*] ')'", EdgesOfLanguageTest::callsWithFewAndMany);
        CHECKS.sentence("['else' BLOCK]", EdgesOfLanguageTest::elsePerhaps);
        CHECKS.sentence("BLOCK: '{' STATEMENT* '}'", EdgesOfLanguageTest::emptyBlocks);
        CHECKS.sentence("EXPR: PART (('+' | '-' | '<') PART)*", EdgesOfLanguageTest::expressions);
        CHECKS.sentence("FAULTS, the first along the text", EdgesOfLanguageTest::firstFault);
        CHECKS.sentence("at a TOKEN's first byte", EdgesOfLanguageTest::placeOfFault);
        CHECKS.sentence("1 a TOKEN that can't stand there", EdgesOfLanguageTest::whatCanStand);
        CHECKS.sentence("1 .. or is none", EdgesOfLanguageTest::noToken);
        CHECKS.sentence("(the text's length where it ends too soon)", EdgesOfLanguageTest::endsTooSoon);
        CHECKS.sentence("2 one that can, but is too much", EdgesOfLanguageTest::cannotGoesFirst);
        CHECKS.sentence("2 .. a WORD of 17 signs or more", EdgesOfLanguageTest::wordTooLong);
        CHECKS.sentence("2 .. a NUMBER of 7 digits or more", EdgesOfLanguageTest::numberTooLong);
        CHECKS.sentence("2 .. the 201st TOKEN", EdgesOfLanguageTest::tokenTooMany);
        CHECKS.sentence("2 .. a { within 6 others of both sorts", EdgesOfLanguageTest::blockTooDeep);
        CHECKS.sentence("2 .. a ( within 6 others of both sorts", EdgesOfLanguageTest::bracketTooDeep);
        CHECKS.sentence("2 .. (of a call, too)", EdgesOfLanguageTest::callTooDeep);
        CHECKS.sentence("2 .. within", EdgesOfLanguageTest::closedOnesAreNoOthers);
        CHECKS.end();
    }

    private static void fine(String text) {
        CHECKS.faulty(text, 0, -1);
    }

    private static void cannotStand(String text, int place) {
        CHECKS.faulty(text, 1, place);
    }

    private static void tooMuch(String text, int place) {
        CHECKS.faulty(text, 2, place);
    }

    private static boolean isOneOf(int b, String signs) {
        return signs.indexOf(b) >= 0;
    }

    private static void bytesOfText() {
        String full = "a=1" + " ".repeat(796) + ";";
        HouseManner x = CHECKS.with(full);
        CHECKS.due("bytes", 800, () -> x.about(0, 1));
        CHECKS.due("tokens", 4, () -> x.about(0, 0));
        CHECKS.due("the last gap", 3, () -> x.gap(0, 2, 1));
        fine("a=1;".repeat(50) + "\n".repeat(600));
        fine("\n".repeat(796) + "a=1;");
        cannotStand(" ".repeat(799) + "=", 799);
        cannotStand(" ".repeat(799) + "a", 800);
    }

    private static void firstOfWord() {
        for (int b = 0; b < 256; b++) {
            String text = (char) b + "=1;";
            if (isOneOf(b, LETTERS)) {
                fine(text);
            } else {
                cannotStand(text, isOneOf(b, " \n") ? 1 : 0);
            }
        }
    }

    private static void restOfWord() {
        for (int b = 0; b < 256; b++) {
            String text = "a" + (char) b + "=1;";
            if (isOneOf(b, LETTERS + DIGITS + "_ \n")) {
                CHECKS.due("tokens of " + text, 4, () -> CHECKS.with(text).about(0, 0));
            } else {
                cannotStand(text, b == '=' ? 2 : 1);
            }
        }
    }

    private static void longWords() {
        String[] words = {"abcdefghijklmnop", "A_______________", "z123456789012345", "aB1_aB1_aB1_aB1_"};
        for (String word : words) {
            fine(word + "=1;");
            fine("a=" + word + ";");
            fine("a=1+(" + word + ");");
            fine("call " + word + "();");
            fine("call f(1," + word + ");");
            fine("if " + word + "{}");
            fine("while " + word + "{}");
            tooMuch(word + "x=1;", 0);
            tooMuch("a=" + word + "_;", 2);
            tooMuch("a=1+(" + word + "1);", 5);
            tooMuch("call " + word + "X();", 5);
            tooMuch("call f(1," + word + "y);", 9);
            tooMuch("if " + word + "0{}", 3);
            tooMuch("while " + word + "9{}", 6);
        }
    }

    private static void longNumbers() {
        for (int digits = 1; digits <= 6; digits++) {
            fine("a=" + "1234567890".substring(0, digits) + ";");
            fine("if " + "0".repeat(digits) + "{}");
        }
        tooMuch("a=1000000;", 2);
        tooMuch("if 0000000{}", 3);
        fine("a=0;b=9;c=999999;d=000000;");
        for (char digit : DIGITS.toCharArray()) {
            fine("a=" + digit + ";");
        }
    }

    private static void signs() {
        fine("a=(b+1-2<3);if a{call f(a,b);}");
        String blanksAndSigns = " \n=+-<(){},;";
        for (int b = 0; b < 256; b++) {
            if (!isOneOf(b, blanksAndSigns + LETTERS + DIGITS)) {
                cannotStand("a=1" + (char) b + ";", 3);
                cannotStand("if (a)" + (char) b + "{}", 6);
            }
        }
        cannotStand("a=1>2;", 3);
        cannotStand("a=b[1];", 3);
        cannotStand("a=b*2;", 3);
        cannotStand("a==1;", 2);
        cannotStand("a=1<=2;", 4);
    }

    private static void blanks() {
        for (int b = 0; b < 256; b++) {
            String text = "a=1;" + (char) b;
            if (isOneOf(b, " \n")) {
                fine(text);
            } else {
                cannotStand(text, isOneOf(b, LETTERS) ? 5 : 4);
            }
        }
        fine(" \n a\n\n=  1 \n; \n");
        fine("if(a){b=(c);}else{call d(e);}");
        cannotStand("ifa{}", 3);
        cannotStand("callf();", 5);
        cannotStand("a=1 2;", 4);
        cannotStand("a=b c;", 4);
        cannotStand("a\t=1;", 1);
        cannotStand("a\r\n=1;", 1);
        cannotStand("a\u00a0=1;", 1);
    }

    private static void keywords() {
        for (String word : KEYWORDS) {
            int wide = word.length();
            cannotStand(word + "=1;", word.equals("else") ? 0 : wide);
            cannotStand("a=" + word + ";", 2);
            cannotStand("a=1-" + word + ";", 4);
            cannotStand("call " + word + "();", 5);
            cannotStand("call f(" + word + ");", 7);
            cannotStand("if " + word + "{}", 3);
            cannotStand("while(" + word + "){}", 6);
            String[] names = {word + "s", word.substring(1), word.substring(0, wide - 1), word + "_", word + "1",
                word.substring(0, 1).toUpperCase() + word.substring(1), word.toUpperCase()};
            for (String name : names) {
                fine(name + "=" + name + ";call " + name + "(" + name + ");if " + name + "{}");
            }
        }
    }

    private static void noStatement() {
        HouseManner x = CHECKS.with("", " ", "\n", " \n \n");
        for (int t = 0; t < 4; t++) {
            int number = t;
            CHECKS.due("tokens of blanks", 0, () -> x.about(number, 0));
            CHECKS.due("statements of blanks", 0, () -> x.about(number, 3));
            CHECKS.due("gaps of blanks", Checks.NO_SUCH, () -> x.gap(number, 0, 0));
        }
        cannotStand(";", 0);
    }

    private static void callsWithFewAndMany() {
        fine("call f();");
        fine("call f(1);");
        fine("call f(1,a);");
        fine("call f(" + "1,".repeat(97) + "1);");
        cannotStand("call f(,1);", 7);
        cannotStand("call f(1,);", 9);
        cannotStand("call f(1,,1);", 9);
        cannotStand("call f(1 1);", 9);
        cannotStand("call f((1,1));", 9);
        cannotStand("call f(());", 8);
    }

    private static void elsePerhaps() {
        fine("if a{}");
        fine("if a{}else{}");
        fine("if a{}if b{}else{}");
        fine("if a{}else{if b{}else{}}");
        cannotStand("else{}", 0);
        cannotStand("if a{}else{}else{}", 12);
        cannotStand("while a{}else{}", 9);
        cannotStand("a=1;else{}", 4);
        cannotStand("if a{else{}}", 5);
        cannotStand("if a{}b=1;else{}", 10);
        cannotStand("if a{}else b=1;", 11);
        cannotStand("if a{}else if b{}", 11);
    }

    private static void emptyBlocks() {
        fine("if a{}while b{}");
        fine("if a{}else{}");
        fine("while a{while b{}}");
        cannotStand("{}", 0);
        cannotStand("a=1;{b=2;}", 4);
        cannotStand("if a{;}", 5);
        cannotStand("if a{{}}", 5);
        cannotStand("if a{}}", 6);
        cannotStand("while a{}}", 9);
    }

    private static void expressions() {
        fine("a=b;");
        fine("a=1+b-2<c;");
        fine("a=1" + "+1".repeat(98) + ";");
        fine("a=(1);");
        fine("a=(1+2)<(b);");
        cannotStand("a=;", 2);
        cannotStand("a=();", 3);
        cannotStand("a=+1;", 2);
        cannotStand("a=-1;", 2);
        cannotStand("a=1+;", 4);
        cannotStand("a=1+-1;", 4);
        cannotStand("a=1<<1;", 4);
        cannotStand("a=(1)(2);", 5);
        cannotStand("a=f(1);", 3);
    }

    private static void firstFault() {
        cannotStand("a=;b=1234567;", 2);
        tooMuch("a=1234567;b=;", 2);
        cannotStand("a=1;=;$", 4);
        tooMuch("abcdefghijklmnopq=1234567;", 0);
        tooMuch("a=1234567;abcdefghijklmnopq=1;", 2);
        cannotStand("$abcdefghijklmnopq=1;", 0);
        cannotStand("a=1}" + "a=1;".repeat(60), 3);
        tooMuch("a=1;".repeat(50) + "a=1;=", 200);
    }

    private static void placeOfFault() {
        cannotStand(" while = 1;", 7);
        cannotStand("\n\n  a = while ;", 8);
        tooMuch("a =\n  1234567 ;", 6);
        tooMuch("  abcdefghijklmnopqrstuvwxyz = 1;", 2);
        tooMuch("a=  (((((( (1)))))));", 11);
        tooMuch("a=1;".repeat(50) + " \n while b{}", 203);
    }

    /** Behind each beginning the TOKENS that can stand, in the order of TOKENS. */
    private static final String[][] CAN_STAND = {
        {"", "n if while call"}, {"a", "="}, {"a=", "n 7 ("}, {"a=b", "+ - < ;"}, {"a=1", "+ - < ;"},
        {"a=1+", "n 7 ("}, {"a=1-", "n 7 ("}, {"a=1<", "n 7 ("}, {"a=(", "n 7 ("}, {"a=(1", "+ - < )"},
        {"a=(1+", "n 7 ("}, {"a=(1)", "+ - < ;"}, {"a=((1)", "+ - < )"}, {"a=1;", "n if while call"},
        {"call", "n"}, {"call f", "("}, {"call f(", "n 7 ( )"}, {"call f()", ";"}, {"call f(1", "+ - < ) ,"},
        {"call f(1,", "n 7 ("}, {"call f(1+", "n 7 ("}, {"call f((", "n 7 ("}, {"call f((1", "+ - < )"},
        {"call f((1)", "+ - < ) ,"}, {"call f(1)", ";"}, {"call f(1,2", "+ - < ) ,"}, {"call f(1,2)", ";"},
        {"call f();", "n if while call"},
        {"if", "n 7 ("}, {"if a", "+ - < {"}, {"if(", "n 7 ("}, {"if(1", "+ - < )"}, {"if(1)", "+ - < {"},
        {"if a{", "n if while call }"}, {"if a{b=1;", "n if while call }"}, {"if a{b=1", "+ - < ;"},
        {"if a{call f()", ";"}, {"if a{call f();", "n if while call }"}, {"if a{}", "n if else while call"},
        {"if a{}else", "{"}, {"if a{}else{", "n if while call }"}, {"if a{}else{b=1;", "n if while call }"},
        {"if a{}else{}", "n if while call"}, {"if a{}b=1;", "n if while call"},
        {"while", "n 7 ("}, {"while a", "+ - < {"}, {"while(1)", "+ - < {"}, {"while a{", "n if while call }"},
        {"while a{b=1;", "n if while call }"}, {"while a{}", "n if while call"},
        {"if a{if b{}", "n if else while call }"}, {"if a{if b{}else{}", "n if while call }"},
        {"if a{while b{}", "n if while call }"}, {"while a{if b{}", "n if else while call }"},
        {"if a{while b{}}", "n if else while call"}, {"while a{while b{}}", "n if while call"},
        {"if a{}else{if b{}", "n if else while call }"}, {"if a{}else{if b{}}", "n if while call"},
        {"if a{while b{if c", "+ - < {"}, {"while a{if b{c=1;}while d", "+ - < {"},
    };

    /** A TOKEN that can stand is the last of the text: it ends there, or too soon, at its length. */
    private static void whatCanStand() {
        for (String[] two : CAN_STAND) {
            StringBuilder standing = new StringBuilder();
            for (String token : TOKENS) {
                HouseManner x = new HouseManner();
                String text = two[0] + " " + token + "\n";
                int fault = Checks.put(x, 0, 0, text);
                boolean stands = fault == 0 || x.fault(1) == text.length();
                int place = x.fault(1);
                CHECKS.due("fault 2 of " + text, false, () -> fault == 2);
                if (stands) {
                    standing.append(standing.length() > 0 ? " " : "").append(token);
                } else {
                    CHECKS.due("place in " + text, two[0].length() + 1, () -> place);
                }
            }
            CHECKS.due("what can stand behind " + two[0], two[1], () -> standing.toString());
        }
    }

    private static void noToken() {
        int[] none = {0, 1, 9, 11, 12, 13, 31, '!', '"', '#', '$', '%', '&', '\'', '*', '.', '/', ':', '>', '?', '@',
            '[', '\\', ']', '^', '_', '`', '|', '~', 127, 128, 170, 181, 186, 192, 223, 233, 255};
        for (int b : none) {
            cannotStand((char) b + "", 0);
            cannotStand("a=" + (char) b + "1;", 2);
            cannotStand("if a{ " + (char) b + "}", 6);
            cannotStand("call f( " + (char) b + ");", 8);
        }
        cannotStand("a=_b;", 2);
        cannotStand("a=1_;", 3);
        cannotStand("a=1b;", 3);
    }

    private static void endsTooSoon() {
        String text = "if a{b=(c+1);call f(1,d);}else{while e{}}";
        int behindIf = text.indexOf("else");
        for (int n = 0; n <= text.length(); n++) {
            String begun = text.substring(0, n);
            for (String blanks : new String[] {"", " ", "\n\n  "}) {
                if (n == 0 || n == behindIf || n == text.length()) {
                    fine(begun + blanks);
                } else {
                    cannotStand(begun + blanks, n + blanks.length());
                }
            }
        }
        cannotStand("a=1" + " ".repeat(797), 800);
        cannotStand("if a{}" + " ".repeat(784) + "else{     ", 800);
        cannotStand("a=1;".repeat(49) + "a=1+ ", 201);
    }

    private static void cannotGoesFirst() {
        cannotStand("a abcdefghijklmnopq=1;", 2);
        cannotStand("a=1 abcdefghijklmnopq;", 4);
        cannotStand("1234567=1;", 0);
        cannotStand("a=1 1234567;", 4);
        cannotStand("call 1234567();", 5);
        cannotStand("if a{}else abcdefghijklmnopq{}", 11);
        String six = "while a{".repeat(6);
        cannotStand(six + "{", 48);
        cannotStand(six + "(", 48);
        cannotStand("a=((((((1(", 9);
        cannotStand("a=((((((1{", 9);
        cannotStand("a=1;".repeat(50) + "=", 200);
        cannotStand("a=1;".repeat(50) + "1234567", 200);
        cannotStand("a=1;".repeat(50) + "else", 200);
        cannotStand("a=1;".repeat(50) + "}", 200);
        cannotStand("a=1;".repeat(50) + "_", 200);
    }

    private static void wordTooLong() {
        tooMuch("abcdefghijklmnopq", 0);
        tooMuch("a".repeat(18) + "=1;", 0);
        tooMuch("a".repeat(800), 0);
        tooMuch("a=" + "b".repeat(798), 2);
        tooMuch("if whilewhilewhilewh{}", 3);
        tooMuch("if a{}elseelseelseelse1=1;", 6);
        tooMuch("call________________();", 0);
    }

    private static void numberTooLong() {
        tooMuch("a=1234567", 2);
        tooMuch("a=12345678;", 2);
        tooMuch("a=0000001;", 2);
        tooMuch("a=" + "9".repeat(798), 2);
        tooMuch("call f(1,2-2147483648);", 11);
        tooMuch("while 1234567x{}", 6);
    }

    private static void tokenTooMany() {
        String full = "a=1;".repeat(50);
        HouseManner x = CHECKS.with(full);
        CHECKS.due("200 tokens", 200, () -> x.about(0, 0));
        CHECKS.due("the last gap of 200", 0, () -> x.gap(0, 198, 0));
        CHECKS.due("no gap behind it", Checks.NO_SUCH, () -> x.gap(0, 199, 0));
        fine(full + " \n\n ");
        String[] nexts = {"a", "if", "while", "call", "abcdefghijklmnopq"};
        for (String next : nexts) {
            tooMuch(full + next, 200);
            tooMuch(full + "\n" + next, 201);
        }
        String open = "a=1;".repeat(49) + "a=(1";
        tooMuch(open + ")", 200);
        tooMuch(open + "+", 200);
        fine("a=1;".repeat(48) + "if a{b=1;}");
        tooMuch("a=1;".repeat(48) + "if a{b=1;}else", 202);
        tooMuch("a=1;".repeat(48) + "if a{b=12;c=", 203);
        fine("a=1;".repeat(48) + "call f(b,c);");
        tooMuch("a=1;".repeat(48) + "call f(b+c);" + " b", 205);
    }

    private static final String[] BLOCKS = {"if a{", "while b{", "if c{d=1;}else{", "while(e){", "if(f){",
        "g=(1);if h{"};

    /** BLOCKS one in the other, the outermost one of a sort that is told. */
    private static String openBlocks(int from, int many) {
        StringBuilder open = new StringBuilder();
        for (int i = 0; i < many; i++) {
            open.append(BLOCKS[(from + i) % BLOCKS.length]);
        }
        return open.toString();
    }

    private static String closeBlocks(int many) {
        return "}".repeat(many);
    }

    private static void blockTooDeep() {
        for (int from = 0; from < BLOCKS.length; from++) {
            String five = openBlocks(from, 5);
            String six = openBlocks(from, 6);
            fine(six + closeBlocks(6));
            tooMuch(six + "if x{", six.length() + 4);
            tooMuch(six + "while x {", six.length() + 8);
            fine(five + "if x{}else{}" + closeBlocks(5));
            tooMuch(five + "if x{if y{", five.length() + 9);
            tooMuch(five + "if x{}else{if y{", five.length() + 15);
            fine(five + "if (x){}" + closeBlocks(5));
        }
    }

    private static void bracketTooDeep() {
        String[] heads = {"a=", "if", "while", "a=1+", "b=(c)-"};
        for (int blocks = 0; blocks <= 6; blocks++) {
            String open = openBlocks(blocks, blocks);
            int left = 6 - blocks;
            for (String head : heads) {
                boolean ofBlock = head.equals("if") || head.equals("while");
                boolean ownBracket = head.contains("(");
                if ((!ofBlock || left > 0) && (!ownBracket || left > 0)) {
                    fine(open + head + (left == 0 ? " 1" : "(".repeat(left) + "1" + ")".repeat(left))
                            + (ofBlock ? "{}" : ";") + closeBlocks(blocks));
                }
                if (!ownBracket || left > 0) {
                    tooMuch(open + head + "(".repeat(left + 1) + "1", (open + head).length() + left);
                    tooMuch(open + head + "(".repeat(left) + "\n(", (open + head).length() + left + 1);
                }
            }
        }
    }

    private static void callTooDeep() {
        for (int blocks = 0; blocks <= 5; blocks++) {
            String open = openBlocks(blocks, blocks);
            int left = 6 - blocks;
            fine(open + "call f" + "(".repeat(left) + "1" + ")".repeat(left) + ";" + closeBlocks(blocks));
            tooMuch(open + "call f" + "(".repeat(left + 1), open.length() + 6 + left);
            tooMuch(open + "call f(1," + "(".repeat(left), open.length() + 9 + left - 1);
        }
        String six = openBlocks(0, 6);
        tooMuch(six + "call f();", six.length() + 6);
        tooMuch(six + "call f (1);", six.length() + 7);
    }

    private static void closedOnesAreNoOthers() {
        fine("a=((((((1))))))-((((((2))))));");
        fine("if((((((1)))))){}while((((((1)))))){}");
        fine("call f(1,(((((2))))),(((((3))))));");
        fine("if a{}".repeat(9));
        fine("if a{while b{}while c{}if d{}else{}if e{f=((((1))));}}");
        fine("if((((((1)))))){if(((((2))))){}}");
    }
}
