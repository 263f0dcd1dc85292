/** Each promise of the document by hand: ordinary inputs, the edges it names, wrong inputs. */
public final class PromisesTest {
    private static final Checks CHECKS = new Checks();
    private static final String NO_SUCH = Checks.NO_SUCH;
    private static final String ILLEGAL = Checks.ILLEGAL;

    public static void main(String[] args) {
        newObject();
        feed();
        text();
        faultsOfTokens();
        faultsOfTooMuch();
        fault();
        drop();
        about();
        gapKinds();
        gapChoices();
        gapTests();
        seen();
        price();
        find();
        findAmongLikeOnes();
        habit();
        exception();
        lay();
        layLong();
        turn();
        turnCannot();
        house();
        told();
        take();
        takeOfWhatChanged();
        alike();
        CHECKS.end();
    }

    private static void due(String what, Object want, Checks.Call call) {
        CHECKS.due(what, want, call);
    }

    private static void newObject() {
        HouseManner x = new HouseManner();
        for (int i = 0; i < 12; i++) {
            int t = i;
            due("new about", NO_SUCH, () -> x.about(t, 0));
            due("new drop", false, () -> x.drop(t));
        }
        due("new seen", 0, () -> x.seen(0, -1));
        due("new habit", -1, () -> x.habit(0, 0));
        due("new house", -1, () -> x.house());
        due("new told", 0, () -> x.told(-1));
        due("new told(0)", NO_SUCH, () -> x.told(0));
        due("new fault(0)", 0, () -> x.fault(0));
        due("new fault(1)", -1, () -> x.fault(1));
        due("new text of more", ILLEGAL, () -> x.text(0, 0, 1));
        due("new price 0", 5, () -> x.price(0, 5));
        due("new price 1", 2, () -> x.price(1, 2));
    }

    private static void feed() {
        HouseManner x = new HouseManner();
        for (int i = 1; i <= 40; i++) {
            int fed = 20 * i;
            due("feed to " + fed, fed, () -> x.feed(0x20202020, 0x20202020, 0x20202020, 0x20202020, 0x20202020));
        }
        due("feed over 800", -1, () -> x.feed(0, 0, 0, 0, 0));
        due("800 blanks", 0, () -> x.text(0, 0, 800));
        due("bytes of 800 blanks", 800, () -> x.about(0, 1));
        due("feed again", 20, () -> x.feed(0x613d313b, 0x623d323b, 0x633d333b, 0x643d343b, 0x653d353b));
        due("five statements", 0, () -> x.text(0, 0, 20));
        due("their tokens", 20, () -> x.about(0, 0));
        due("feed a first byte of 255", 20, () -> x.feed(-1, -1, -1, -1, -1));
        due("text of 255", 1, () -> x.text(0, 0, 20));
    }

    private static void text() {
        HouseManner x = CHECKS.with("a=1;");
        due("text(-1", ILLEGAL, () -> x.text(-1, 0, 0));
        due("text(12", ILLEGAL, () -> x.text(12, 0, 0));
        due("hand -1", ILLEGAL, () -> x.text(0, -1, 0));
        due("hand 4", ILLEGAL, () -> x.text(0, 4, 0));
        due("n -1", ILLEGAL, () -> x.text(0, 0, -1));
        due("n 1 of an empty tape", ILLEGAL, () -> x.text(0, 0, 1));
        due("feed", 20, () -> Checks.feedBytes(x, "b=2;c=3;".getBytes()));
        due("n 21 of 20", ILLEGAL, () -> x.text(0, 0, 21));
        due("the tape is as it was", 40, () -> Checks.feedBytes(x, "b=2;c=3;".getBytes()));
        due("text stays", 4, () -> x.about(0, 1));
        due("only the first 4", 0, () -> x.text(11, 3, 4));
        due("bytes", 4, () -> x.about(11, 1));
        due("hand", 3, () -> x.about(11, 2));
        due("the tape is empty then", ILLEGAL, () -> x.text(0, 0, 1));
        due("with a fault", 1, () -> Checks.put(x, 11, 0, "a=;"));
        due("stays with a fault", 3, () -> x.about(11, 2));
        due("the tape is empty with a fault, too", ILLEGAL, () -> x.text(0, 0, 1));
        due("in place of", 0, () -> Checks.put(x, 11, 1, "  if(a){}else{} "));
        due("bytes in place", 16, () -> x.about(11, 1));
        due("hand in place", 1, () -> x.about(11, 2));
    }

    private static void faultsOfTokens() {
        String[] fine = {"", " \n ", "a=1;", "if 1{}", "if 1{}else{}", "while(1){}", "call f();",
            "call f(1,(a),b-c<d);", "if a{while b{call c();}d=e;}else{f=g;}h=i;", "ifx=1;", "If=Else;",
            "calls=1;", "a_1=2;", "if a{}if b{}else{}", "a=(b);"};
        for (String text : fine) {
            CHECKS.faulty(text, 0, -1);
        }
        CHECKS.faulty("=", 1, 0);
        CHECKS.faulty(" \n;", 1, 2);
        CHECKS.faulty("a", 1, 1);
        CHECKS.faulty("a  ", 1, 3);
        CHECKS.faulty("a b", 1, 2);
        CHECKS.faulty("if=1;", 1, 2);
        CHECKS.faulty("a=if;", 1, 2);
        CHECKS.faulty("call if();", 1, 5);
        CHECKS.faulty("call 1();", 1, 5);
        CHECKS.faulty("call f;", 1, 6);
        CHECKS.faulty("call f(,);", 1, 7);
        CHECKS.faulty("call f(1 2);", 1, 9);
        CHECKS.faulty("call f(1)", 1, 9);
        CHECKS.faulty("call f(1){}", 1, 9);
        CHECKS.faulty("call f((1,2));", 1, 9);
        CHECKS.faulty("call f(1;", 1, 8);
        CHECKS.faulty("a=();", 1, 3);
        CHECKS.faulty("a=(1;", 1, 4);
        CHECKS.faulty("a=1);", 1, 3);
        CHECKS.faulty("a=1+;", 1, 4);
        CHECKS.faulty("a=1=2;", 1, 3);
        CHECKS.faulty("a=1,2;", 1, 3);
        CHECKS.faulty("a=1{}", 1, 3);
        CHECKS.faulty("a=call f();", 1, 2);
        CHECKS.faulty("if{}", 1, 2);
        CHECKS.faulty("if a;", 1, 4);
        CHECKS.faulty("if a{", 1, 5);
        CHECKS.faulty("if a{}}", 1, 6);
        CHECKS.faulty("}", 1, 0);
        CHECKS.faulty("else{}", 1, 0);
        CHECKS.faulty("while a{}else{}", 1, 9);
        CHECKS.faulty("if a{}else{}else{}", 1, 12);
        CHECKS.faulty("if a{}b=1;else{}", 1, 10);
        CHECKS.faulty("if a{else{}}", 1, 5);
        CHECKS.faulty("if a{if b{}}else{}", 0, -1);
        CHECKS.faulty("if a{while b{}else{}}", 1, 14);
        CHECKS.faulty("if a{}else if b{}", 1, 11);
        CHECKS.faulty("if a{}else", 1, 10);
        CHECKS.faulty("if a{a=1}", 1, 8);
        CHECKS.faulty("_a=1;", 1, 0);
        CHECKS.faulty("a=_;", 1, 2);
        CHECKS.faulty("a=1_;", 1, 3);
        CHECKS.faulty("a=1b;", 1, 3);
        CHECKS.faulty("a=1>2;", 1, 3);
        CHECKS.faulty("a=1;\t", 1, 4);
        CHECKS.faulty("a=1;\r\n", 1, 4);
        CHECKS.faulty("a=1;\u00e9=1;", 1, 4);
        CHECKS.faulty("a=\u00ff;", 1, 2);
        CHECKS.faulty("a=1;\u0000", 1, 4);
    }

    private static void faultsOfTooMuch() {
        CHECKS.faulty("abcdefghijklmnop=1;", 0, -1);
        CHECKS.faulty("abcdefghijklmnopq=1;", 2, 0);
        CHECKS.faulty("a=abcdefghijklmnopq", 2, 2);
        CHECKS.faulty("call abcdefghijklmn_123();", 2, 5);
        CHECKS.faulty("a abcdefghijklmnopq", 1, 2);
        CHECKS.faulty("a=123456;", 0, -1);
        CHECKS.faulty("a=1234567;", 2, 2);
        CHECKS.faulty("a=00000000000;", 2, 2);
        CHECKS.faulty("a 1234567;", 1, 2);
        CHECKS.faulty("1234567;", 1, 0);
        CHECKS.faulty("a=((((((1))))));", 0, -1);
        CHECKS.faulty("a=(((((((1)))))));", 2, 8);
        CHECKS.faulty("a=1+(((((((1", 2, 10);
        CHECKS.faulty("call f((((((1))))));", 0, -1);
        CHECKS.faulty("call f(((((((1)))))));", 2, 12);
        String five = Checks.repeat("if a{", 5);
        CHECKS.faulty(five + "call f();" + "}}}}}", 0, -1);
        CHECKS.faulty(five + "call f((1));" + "}}}}}", 2, 32);
        CHECKS.faulty(five + "if (a){}}}}}}", 0, -1);
        CHECKS.faulty(five + "if a{}}}}}}", 0, -1);
        CHECKS.faulty(five + "while a{if b{", 2, 37);
        CHECKS.faulty(five + "while a{call f();", 2, 39);
        CHECKS.faulty(five + "while a{b=(1);", 2, 35);
        CHECKS.faulty(five + "if a{}else{b=1;c=(", 2, 42);
        String fifty = Checks.repeat("a=1;", 50);
        CHECKS.faulty(fifty, 0, -1);
        CHECKS.faulty(fifty + "  \n", 0, -1);
        CHECKS.faulty(fifty + " a", 2, 201);
        CHECKS.faulty(fifty + "1", 1, 200);
        CHECKS.faulty(fifty + "$", 1, 200);
        CHECKS.faulty(Checks.repeat("a=1;", 49) + "a=1+ 1;", 2, 201);
        CHECKS.faulty(Checks.repeat("a=1;", 49) + "a=1+", 1, 200);
        CHECKS.faulty(Checks.repeat("a=1;", 49) + "a=1+;", 1, 200);
    }

    private static void fault() {
        HouseManner x = CHECKS.with("a=1;");
        due("fault(2)", NO_SUCH, () -> x.fault(2));
        due("fault(-1)", NO_SUCH, () -> x.fault(-1));
        Checks.put(x, 0, 0, "a=1=");
        due("a wrong call", ILLEGAL, () -> x.text(0, 4, 0));
        due("the fault stays", 1, () -> x.fault(0));
        due("the place stays", 3, () -> x.fault(1));
        x.turn(0, 0);
        due("take", true, () -> x.take(0));
        due("take is no text()", 3, () -> x.fault(1));
        x.text(1, 0, 0);
        due("of the latest", 0, () -> x.fault(0));
        due("no place", -1, () -> x.fault(1));
    }

    private static void drop() {
        HouseManner x = CHECKS.with("a=1;", "b=2;");
        due("drop(-1)", ILLEGAL, () -> x.drop(-1));
        due("drop(12)", ILLEGAL, () -> x.drop(12));
        due("drop(0)", true, () -> x.drop(0));
        due("drop(0) again", false, () -> x.drop(0));
        due("about(0)", NO_SUCH, () -> x.about(0, 0));
        due("seen", 1, () -> x.seen(11, -1));
        due("the other one stays", 4, () -> x.about(1, 0));
        due("text again", 0, () -> x.text(0, 0, 0));
        due("about again", 0, () -> x.about(0, 0));
        due("drop an empty one", true, () -> x.drop(0));
    }

    private static void about() {
        HouseManner x = new HouseManner();
        String text = " if a {\n  b=1; while c{call d(1,2);}}else{e=2;}\n";
        due("text", 0, () -> Checks.put(x, 7, 2, text));
        due("tokens", 27, () -> x.about(7, 0));
        due("bytes", text.length(), () -> x.about(7, 1));
        due("hand", 2, () -> x.about(7, 2));
        due("statements", 5, () -> x.about(7, 3));
        due("what 4", NO_SUCH, () -> x.about(7, 4));
        due("what -1", NO_SUCH, () -> x.about(7, -1));
        due("text -1", NO_SUCH, () -> x.about(-1, 0));
        due("text 12", NO_SUCH, () -> x.about(12, 0));
        due("text 6", NO_SUCH, () -> x.about(6, 0));
    }

    private static void gapKinds() {
        CHECKS.gapsAre("a=b+1;", 0, 11, 12, 13, 14, 0);
        CHECKS.gapsAre("a=(b)<(1-2);c=1;", 0, 11, 10, 8, 9, 13, 10, 8, 13, 14, 9, 0, 1, 11, 12, 0);
        CHECKS.gapsAre("a=((1));", 0, 11, 10, 8, 8, 9, 9, 0);
        CHECKS.gapsAre("call f(a,b);", 0, 15, 10, 8, 6, 7, 9, 0);
        CHECKS.gapsAre("call f();", 0, 15, 10, 8, 0);
        CHECKS.gapsAre("if a{}else{b=1;}", 0, 15, 5, 2, 4, 5, 2, 11, 12, 0, 1);
        CHECKS.gapsAre("while(a){if 1{}}", 0, 10, 8, 9, 5, 2, 15, 5, 2, 3);
        CHECKS.gapsAre("if a{}b=1;", 0, 15, 5, 2, 4, 11, 12, 0);
        CHECKS.gapsAre("call f((1),(2));", 0, 15, 10, 8, 8, 9, 6, 7, 8, 9, 9, 0);
        CHECKS.gapsAre("", 0);
    }

    private static void gapChoices() {
        CHECKS.gapsAre("a =  1\n;\n b\n\n=\n1;", 1, 1, 3, 2, 3, 3, 2, 0);
        CHECKS.gapsAre("if a{\n  b=1;\nc=2;\n}\n  d\n=1;", 1, 1, 0, 2, 0, 0, 0, 3, 0, 0, 0, 2, 3, 2, 0, 0);
        CHECKS.gapsAre("if a{if b{\n   c=1;\n    d\n    =1;\n  }\n}", 1, 1, 0, 0, 1, 0, 3, 0, 0, 0, 2, 2, 0, 0, 2, 2);
        CHECKS.gapsAre("if a\n{ \n}", 1, 1, 2, 3);
        CHECKS.gapsAre("if a{\n\n b=\n \n1;}", 1, 1, 0, 3, 0, 3, 0, 0);
        CHECKS.gapsAre("if a{b=1;  \nc=1;}", 1, 1, 0, 0, 0, 0, 0, 3, 0, 0, 0, 0);
    }

    private static void gapTests() {
        HouseManner x = new HouseManner();
        Checks.put(x, 4, 3, "if a{while b{c=1;call d();}}else{}");
        // if a { while b { c = 1 ; call d ( ) ; } } else { }
        int[] depths = {0, 0, 1, 1, 1, 2, 2, 2, 2, 2, 2, 2, 2, 2, 1, 0, 0, 0, 0};
        int[] owners = {2, 2, 2, 3, 3, 3, 0, 0, 0, 0, 1, 1, 1, 1, 1, 3, 2, 2, 2};
        for (int i = 0; i < depths.length; i++) {
            int gap = i;
            int bits = 512 + (4 << owners[i]) + (depths[i] == 0 ? 1 : depths[i] > 1 ? 2 : 0);
            due("depth of gap " + i, depths[i], () -> x.gap(4, gap, 2));
            due("tests of gap " + i, bits, () -> x.gap(4, gap, 3));
        }
        due("gap -1", NO_SUCH, () -> x.gap(4, -1, 0));
        due("gap 19", NO_SUCH, () -> x.gap(4, 19, 0));
        due("what -1", NO_SUCH, () -> x.gap(4, 0, -1));
        due("what 4", NO_SUCH, () -> x.gap(4, 0, 4));
        due("text -1", NO_SUCH, () -> x.gap(-1, 0, 0));
        due("text 12", NO_SUCH, () -> x.gap(12, 0, 0));
        due("text 3", NO_SUCH, () -> x.gap(3, 0, 0));
        for (int hand = 0; hand < 4; hand++) {
            Checks.put(x, hand, hand, "a=1;");
            int t = hand;
            due("tests of hand " + hand, 5 + (64 << hand), () -> x.gap(t, 0, 3));
        }
    }

    private static void seen() {
        HouseManner x = CHECKS.with("a=1;b =2;c\n= 3;", "d = 4;", "e  =5;");
        due("seen 11, 0", 1, () -> x.seen(11, 0));
        due("seen 11, 1", 2, () -> x.seen(11, 1));
        due("seen 11, 2", 1, () -> x.seen(11, 2));
        due("seen 11, 3", 1, () -> x.seen(11, 3));
        due("seen 11", 5, () -> x.seen(11, -1));
        due("seen 15", 0, () -> x.seen(15, -1));
        due("kind -1", ILLEGAL, () -> x.seen(-1, 0));
        due("kind 16", ILLEGAL, () -> x.seen(16, 0));
        due("choice -2", ILLEGAL, () -> x.seen(0, -2));
        due("choice 4", ILLEGAL, () -> x.seen(0, 4));
    }

    private static void price() {
        HouseManner x = new HouseManner();
        due("price 0", 5, () -> x.price(0, 100));
        due("price 1", 2, () -> x.price(1, 0));
        due("price 0 again", 100, () -> x.price(0, 7));
        due("price 1 again", 0, () -> x.price(1, 9));
        due("price -1", ILLEGAL, () -> x.price(-1, 0));
        due("price 2", ILLEGAL, () -> x.price(2, 0));
        due("v -1", ILLEGAL, () -> x.price(0, -1));
        due("v 101", ILLEGAL, () -> x.price(1, 101));
        due("nothing changed 0", 7, () -> x.price(0, 0));
        due("nothing changed 1", 9, () -> x.price(1, 0));
    }

    private static void find() {
        HouseManner x = new HouseManner();
        due("find without texts", 0, () -> x.find());
        CHECKS.habitIs(x, 0, 0, -1, -1, -1, -1, 0, 0, 0);
        Checks.put(x, 0, 0, "a=1;b=1;c=1;");
        Checks.put(x, 1, 1, "a =1;b =1;c =1;");
        due("a test is dearer", 5, () -> x.find());
        CHECKS.habitIs(x, 11, 1, 6, 0, -1, -1, 1, 5, 0);
        x.price(0, 6);
        due("a test costs as much", 6, () -> x.find());
        CHECKS.habitIs(x, 11, 0, -1, -1, -1, -1, 0, 6, 3);
        Checks.put(x, 2, 2, "a\n=1;b\n=1;c\n=1;");
        x.price(0, 1);
        due("two tests", 2, () -> x.find());
        CHECKS.habitIs(x, 11, 2, 6, 0, 7, 1, 2, 2, 0);
        x.price(0, 0);
        due("tests for nothing", 0, () -> x.find());
        CHECKS.habitIs(x, 11, 2, 6, 0, 7, 1, 2, 0, 0);
        CHECKS.habitIs(x, 12, 0, -1, -1, -1, -1, 0, 0, 0);
        x.price(1, 0);
        due("exceptions for nothing", 0, () -> x.find());
        CHECKS.habitIs(x, 11, 0, -1, -1, -1, -1, 0, 0, 6);
    }

    private static void findAmongLikeOnes() {
        HouseManner x = CHECKS.with("if a{}while b{}call c();");
        due("kept apart", 0, () -> x.find());
        CHECKS.habitIs(x, 15, 0, -1, -1, -1, -1, 0, 0, 0);
        HouseManner y = CHECKS.with("a\n=1;b\n=1;", "if c{d =1;if e{f=1;g=1;}}");
        y.price(0, 1);
        due("by depth", 2, () -> y.find());
        CHECKS.habitIs(y, 11, 2, 0, 2, 1, 0, 1, 2, 0);
        HouseManner z = CHECKS.with("a  =1;");
        due("all else is never told", 2, () -> z.find());
        CHECKS.habitIs(z, 11, 0, -1, -1, -1, -1, 0, 2, 1);
        HouseManner v = CHECKS.with("a=1;", "b =1;", "c\n=1;");
        due("all as many", 4, () -> v.find());
        CHECKS.habitIs(v, 11, 0, -1, -1, -1, -1, 0, 4, 2);
    }

    private static void habit() {
        HouseManner x = CHECKS.with("a =1;");
        due("habit without a style", -1, () -> x.habit(15, 7));
        due("kind -1", ILLEGAL, () -> x.habit(-1, 0));
        due("kind 16", ILLEGAL, () -> x.habit(16, 0));
        due("what -1", ILLEGAL, () -> x.habit(0, -1));
        due("what 8", ILLEGAL, () -> x.habit(0, 8));
        x.find();
        CHECKS.habitIs(x, 11, 0, -1, -1, -1, -1, 1, 0, 0);
        Checks.put(x, 1, 0, "a=1;b=1;");
        x.price(1, 50);
        CHECKS.habitIs(x, 11, 0, -1, -1, -1, -1, 1, 0, 0);
        x.drop(0);
        CHECKS.habitIs(x, 11, 0, -1, -1, -1, -1, 1, 0, 0);
        due("what 8 with a style", ILLEGAL, () -> x.habit(0, 8));
    }

    private static void exception() {
        HouseManner x = CHECKS.with("a =1;b=1;", "if a{}if  b{}");
        due("without a style", -1, () -> x.exception(0, -1));
        due("without a style, i 0", -1, () -> x.exception(0, 0));
        due("without a style, i -2", ILLEGAL, () -> x.exception(0, -2));
        due("no text", NO_SUCH, () -> x.exception(2, -1));
        due("text -1", NO_SUCH, () -> x.exception(-1, -1));
        due("text 12", NO_SUCH, () -> x.exception(12, 0));
        x.find();
        due("how many", 1, () -> x.exception(0, -1));
        due("the first", 0, () -> x.exception(0, 0));
        due("the second", -1, () -> x.exception(0, 1));
        due("a million", -1, () -> x.exception(0, 1000000));
        due("i -2", ILLEGAL, () -> x.exception(0, -2));
        due("kept apart is none", 1, () -> x.exception(1, -1));
        due("which", 4, () -> x.exception(1, 0));
        Checks.put(x, 2, 0, "a= 1 ;b\n=1;");
        due("of a later text", 3, () -> x.exception(2, -1));
        due("of a later text 0", 1, () -> x.exception(2, 0));
        due("of a later text 1", 2, () -> x.exception(2, 1));
        due("of a later text 2", 4, () -> x.exception(2, 2));
        x.text(3, 0, 0);
        due("of an empty text", 0, () -> x.exception(3, -1));
    }

    private static void lay() {
        String wild = "  if(x)\n{y=\n1;}call  z( 1 ,2 ) ;if 1{}  ";
        HouseManner x = CHECKS.with("if a {\n  b = 1;\n  while c {\n    call d(1, 2);\n  }\n}\ne = (f - 2);", wild);
        due("lay without a style", -1, () -> x.lay(1));
        due("turn", wild.length(), () -> x.turn(1, 0));
        due("lay without a style again", -1, () -> x.lay(1));
        due("OUT is empty", 0, () -> x.told(-1));
        x.drop(1);
        x.find();
        Checks.put(x, 1, 2, wild);
        String want = "if(x) {\n  y = 1;\n}\ncall z(1, 2);\nif 1 {\n}";
        due("lay", want.length(), () -> x.lay(1));
        due("what is laid", want, () -> Checks.out(x));
        due("the text stays", wild.length(), () -> x.about(1, 1));
        due("no text", NO_SUCH, () -> x.lay(2));
        due("text -1", NO_SUCH, () -> x.lay(-1));
        due("text 12", NO_SUCH, () -> x.lay(12));
        due("OUT stays", want, () -> Checks.out(x));
        x.text(3, 0, 0);
        due("an empty one", 0, () -> x.lay(3));
        Checks.put(x, 3, 0, " \n ");
        due("one of blanks", 0, () -> x.lay(3));
    }

    /** Six BLOCKS deep each GAP is laid as 13 bytes; the last names make up what is lacking. */
    private static void layLong() {
        String open = "if a{if a{if a{if a{if a{if a{";
        HouseManner x = new HouseManner();
        Checks.put(x, 0, 0, "if a{if a{if a{if a{if a{if a{b\n            =\n            1\n            ;"
                + "\n            b\n            =\n            1\n            ;}}}}}}");
        x.find();
        String many = Checks.repeat("b=1;", 36);
        Checks.put(x, 1, 0, open + many + "}}}}}}");
        int base = x.lay(1);
        due("a base below 2000", true, () -> base > 1000 && base < 2000);
        int lack = 2000 - base;
        StringBuilder names = new StringBuilder();
        int left = lack;
        for (int i = 0; i < 36; i++) {
            int longer = Math.min(15, left);
            left -= longer;
            names.append("b").append("b".repeat(longer)).append("=1;");
        }
        int rest = left;
        due("the names make it up", 0, () -> rest);
        String just = open + names + "}}}}}}";
        due("just 2000 in", 0, () -> Checks.put(x, 2, 0, just));
        due("just 2000", 2000, () -> x.lay(2));
        due("too long to take", false, () -> x.take(2));
        due("its last byte", (int) '}', () -> x.told(1999));
        due("no byte 2000", NO_SUCH, () -> x.told(2000));
        due("2001 in", 0, () -> Checks.put(x, 2, 0, just.replaceFirst("=1;}", "=12;}")));
        due("2001", -1, () -> x.lay(2));
        due("OUT is empty", 0, () -> x.told(-1));
        due("nothing to take", false, () -> x.take(2));
    }

    private static void turned(String text, int make, String want) {
        HouseManner x = CHECKS.with(text);
        due("turn " + text + " to " + make, want.length(), () -> x.turn(0, make));
        due("turned " + text + " to " + make, Checks.bothEnds(want), () -> Checks.outEnds(x));
    }

    private static void turn() {
        turned(" rowOf =\n max_value ; ", 0, " row_of =\n max_value ; ");
        turned(" rowOf =\n max_value ; ", 1, " rowOf =\n maxValue ; ");
        turned("A=Bc+aB__cD_;", 0, "a=bc+a_b_c_d;");
        turned("A=Bc+aB__cD_;", 1, "a=bc+aBCD;");
        turned("call row_2a(x_1_Y,z1);", 1, "call row2a(x1Y,z1);");
        turned("call row_2a(x_1_Y,z1);", 0, "call row_2a(x_1_y,z1);");
        turned("if aB{while a_c{call call_me(12);}}else{b=1;}", 1,
                "if aB{while aC{call callMe(12);}}else{b=1;}");
        turned("a_b=aB2;", 1, "aB=aB2;");
        turned("aZ0=z_Z9;", 0, "a_z0=z_z9;");
        turned("Z_z=aA;", 1, "zZ=aA;");
        turned("", 0, "");
        turned(" \n", 1, " \n");
        turned("abcdefgH=1;a=aBCDEFGH;", 0, "abcdefg_h=1;a=a_b_c_d_e_f_g_h;");
        turned("abcdefghijklmnO=1;", 0, "abcdefghijklmn_o=1;");
        HouseManner x = CHECKS.with("a=1;");
        due("make -1", ILLEGAL, () -> x.turn(0, -1));
        due("make 2", ILLEGAL, () -> x.turn(0, 2));
        due("no text", NO_SUCH, () -> x.turn(1, 0));
        due("text -1", NO_SUCH, () -> x.turn(-1, 0));
        due("text 12", NO_SUCH, () -> x.turn(12, 1));
    }

    private static void turnFails(String text, int make) {
        HouseManner x = CHECKS.with("a=1;", text);
        due("turn", 4, () -> x.turn(0, 0));
        due("turn " + text + " to " + make, -1, () -> x.turn(1, make));
        due("OUT is empty", 0, () -> x.told(-1));
        due("nothing to take", false, () -> x.take(1));
        due("nothing to take of another", false, () -> x.take(0));
    }

    private static void turnCannot() {
        turnFails("rowOf=row_of;", 0);
        turnFails("rowOf=row_of;", 1);
        turnFails("a=b;call A();", 0);
        turnFails("a__b=1;b=2;aB=3;", 1);
        turnFails("row_2=row2;", 1);
        turnFails("If=1;", 0);
        turnFails("a=else_;", 1);
        turnFails("a=While;", 0);
        turnFails("call call__();", 1);
        turnFails("abcdefghijklmnoP=1;", 0);
        turnFails("ABCDEFGHIJKLMNOP=1;", 0);
        turnFails("aBCDEFGHI=1;", 0);
        turned("row_2=row2;", 0, "row_2=row2;");
        turned("abcdefghijklmnoP=1;", 1, "abcdefghijklmnoP=1;");
        String full = "aB=1;" + Checks.repeat(" ", 794);
        turned(full, 0, "a_b=1;" + Checks.repeat(" ", 794));
        turnFails(full + " ", 0);
        turned(full + " ", 1, full + " ");
    }

    private static void house() {
        due("no names of two parts", -1, () -> CHECKS.with("a=b+C+d1+e_;").house());
        due("low lines", 0, () -> CHECKS.with("a_b=1;", "c=a_b+cD;").house());
        due("great letters", 1, () -> CHECKS.with("aB=aB+a_b;").house());
        due("as many", -1, () -> CHECKS.with("aB=a_b;").house());
        due("neither", -1, () -> CHECKS.with("Ab_c=a__b+AbC+a_B+a_b_;").house());
        due("calls, too", 1, () -> CHECKS.with("call aB(cD,e_f);").house());
        due("digits", 0, () -> CHECKS.with("row_2=row2;").house());
        due("of two different makes", 1, () -> CHECKS.with("a_bC=dE;").house());
        HouseManner x = CHECKS.with("aB=1;", "c_d=1;");
        due("of all texts", -1, () -> x.house());
        x.drop(0);
        due("not of a dropped one", 0, () -> x.house());
    }

    private static void told() {
        HouseManner x = CHECKS.with("a=1;");
        x.turn(0, 0);
        due("how many", 4, () -> x.told(-1));
        due("the first", 97, () -> x.told(0));
        due("the last", 59, () -> x.told(3));
        due("behind", NO_SUCH, () -> x.told(4));
        due("-2", NO_SUCH, () -> x.told(-2));
    }

    private static void take() {
        HouseManner x = new HouseManner();
        Checks.put(x, 5, 3, "rowOf =1;");
        x.find();
        due("turn", 10, () -> x.turn(5, 0));
        due("no text", NO_SUCH, () -> x.take(4));
        due("text -1", NO_SUCH, () -> x.take(-1));
        due("text 12", NO_SUCH, () -> x.take(12));
        x.text(4, 0, 0);
        due("of another", false, () -> x.take(4));
        due("nothing changed", 0, () -> x.about(4, 1));
        due("take", true, () -> x.take(5));
        due("bytes", 10, () -> x.about(5, 1));
        due("hand", 3, () -> x.about(5, 2));
        due("tests", 512 + 5, () -> x.gap(5, 0, 3));
        due("statements", 1, () -> x.about(5, 3));
        due("house", 0, () -> x.house());
        due("OUT stays", "row_of =1;", () -> Checks.out(x));
        due("not twice", false, () -> x.take(5));
        due("lay", 10, () -> x.lay(5));
        due("take again", true, () -> x.take(5));
        Checks.put(x, 6, 0, "aB=1;" + Checks.repeat(" ", 794));
        due("turn to 800", 800, () -> x.turn(6, 0));
        due("take 800", true, () -> x.take(6));
        due("bytes of 800", 800, () -> x.about(6, 1));
    }

    private static void takeOfWhatChanged() {
        HouseManner x = CHECKS.with("a = 1;", "b = 2;");
        x.find();
        due("nothing yet", false, () -> x.take(0));
        x.lay(0);
        Checks.put(x, 0, 0, "c = 3;");
        due("another text now", false, () -> x.take(0));
        x.lay(0);
        Checks.put(x, 0, 0, "c = ;");
        x.price(0, 1);
        x.find();
        Checks.put(x, 2, 0, "d=1;");
        x.drop(1);
        due("all that is no change of it", true, () -> x.take(0));
        x.lay(0);
        x.drop(0);
        due("dropped", NO_SUCH, () -> x.take(0));
        due("what was told stays", 6, () -> x.told(-1));
        Checks.put(x, 0, 0, "c = 3;");
        due("another one", false, () -> x.take(0));
        x.lay(0);
        x.turn(2, 0);
        due("told of another latest", false, () -> x.take(0));
        due("told of this one", true, () -> x.take(2));
        x.lay(0);
        due("a wrong turn", ILLEGAL, () -> x.turn(0, 9));
        due("a wrong lay", NO_SUCH, () -> x.lay(9));
        due("wrong calls change nothing", true, () -> x.take(0));
    }

    private static void alike() {
        HouseManner x = CHECKS.with("a=1;b=2;", " a = 1 ;\n\nb\n=2;", "a=1;b=3;", "a=1;", "A=1;", "aa=1;", "");
        int[][] same = {{0, 1}, {1, 0}, {0, 0}, {6, 6}};
        int[][] unlike = {{0, 2}, {0, 3}, {3, 0}, {3, 4}, {3, 5}, {5, 3}, {6, 3}};
        for (int[] two : same) {
            due("alike " + two[0] + " " + two[1], true, () -> x.alike(two[0], two[1]));
        }
        for (int[] two : unlike) {
            due("alike " + two[0] + " " + two[1], false, () -> x.alike(two[0], two[1]));
        }
        due("first none", NO_SUCH, () -> x.alike(7, 0));
        due("second none", NO_SUCH, () -> x.alike(0, 7));
        due("first -1", NO_SUCH, () -> x.alike(-1, 0));
        due("second 12", NO_SUCH, () -> x.alike(0, 12));
        x.find();
        x.lay(1);
        x.take(1);
        due("laid is alike", true, () -> x.alike(0, 1));
    }
}
