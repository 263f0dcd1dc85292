/** "Terms", "==== 4": each sentence on PARTS, MAKES and THE HOUSE's MAKE that names an edge, by itself. */
public final class EdgesOfNamesTest {
    private static final Checks CHECKS = new Checks();

    public static void main(String[] args) {
        CHECKS.sentence("it is parted at each _ (which goes", EdgesOfNamesTest::partedAtLowLine);
        CHECKS.sentence("several .. part once", EdgesOfNamesTest::severalPartOnce);
        CHECKS.sentence("or at an end, part .. nothing", EdgesOfNamesTest::atAnEndPartNothing);
        CHECKS.sentence("and ahead of each great letter", EdgesOfNamesTest::partedAtGreatLetters);
        CHECKS.sentence("letters are small in them", EdgesOfNamesTest::allLetters);
        CHECKS.sentence("each but the first with its first letter great", EdgesOfNamesTest::firstPartStaysSmall);
        CHECKS.sentence("(a digit stays)", EdgesOfNamesTest::digits);
        CHECKS.sentence("all else, blanks too, as it is", EdgesOfNamesTest::allElseStays);
        CHECKS.sentence("It can't be, if two unlike NAMES would be alike", EdgesOfNamesTest::alikeNames);
        CHECKS.sentence("It can't be, if .. one would be a KEYWORD", EdgesOfNamesTest::keywords);
        CHECKS.sentence("It can't be, if .. one would .. have no PARTS, begin with a digit",
                EdgesOfNamesTest::leastParts);
        CHECKS.sentence("It can't be, if .. one would .. be longer than 16", EdgesOfNamesTest::longNames);
        CHECKS.sentence("It can't be, if .. the text longer than 800", EdgesOfNamesTest::longTexts);
        CHECKS.sentence("which of both more NAMES have", EdgesOfNamesTest::oneMore);
        CHECKS.sentence("NONE if as many", EdgesOfNamesTest::asMany);
        CHECKS.sentence("being just as it makes them", EdgesOfNamesTest::justAsMade);
        CHECKS.sentence("each place of all TEXTS counts", EdgesOfNamesTest::placesOfAllTexts);
        CHECKS.sentence("where one with two PARTS or more stands", EdgesOfNamesTest::twoPartsOrMore);
        CHECKS.end();
    }

    private static void turned(String text, int make, String want) {
        HouseManner x = CHECKS.with(text);
        CHECKS.due("turn " + text + " to " + make, want.length(), () -> x.turn(0, make));
        CHECKS.due("turned " + text + " to " + make, Checks.bothEnds(want), () -> Checks.outEnds(x));
    }

    /** One NAME, turned to both MAKES. */
    private static void made(String name, String withLowLines, String withGreatLetters) {
        turned(name + "=1;", 0, withLowLines + "=1;");
        turned(name + "=1;", 1, withGreatLetters + "=1;");
        turned("if 7{w9=(" + name + ");}", 0, "if 7{w9=(" + withLowLines + ");}");
        turned("call " + name + "(2," + name + ");", 1, "call " + withGreatLetters + "(2," + withGreatLetters + ");");
    }

    private static void cannotBe(String text, int make) {
        HouseManner x = CHECKS.with(text, "q=1;");
        CHECKS.due("something is told before", 4, () -> x.turn(1, 0));
        CHECKS.due("turn " + text + " to " + make, -1, () -> x.turn(0, make));
        CHECKS.due("OUT is empty", 0, () -> x.told(-1));
        CHECKS.due("the text stays", text.length(), () -> x.about(0, 1));
    }

    private static void cannotBeBoth(String text) {
        cannotBe(text, 0);
        cannotBe(text, 1);
    }

    private static void partedAtLowLine() {
        made("row_of", "row_of", "rowOf");
        made("r_o_w", "r_o_w", "rOW");
        made("a_b_c_d_e_f_g_h", "a_b_c_d_e_f_g_h", "aBCDEFGH");
    }

    private static void severalPartOnce() {
        made("row__of", "row_of", "rowOf");
        made("a______________b", "a_b", "aB");
        made("row_Of", "row_of", "rowOf");
        made("row__OfA___b", "row_of_a_b", "rowOfAB");
    }

    private static void atAnEndPartNothing() {
        made("row_", "row", "row");
        made("r_______________", "r", "r");
        made("row_of__", "row_of", "rowOf");
        made("rowOf_", "row_of", "rowOf");
    }

    private static void partedAtGreatLetters() {
        made("rowOf", "row_of", "rowOf");
        made("Row", "row", "row");
        made("RowOf", "row_of", "rowOf");
        made("ABC", "a_b_c", "aBC");
        made("aBCd", "a_b_cd", "aBCd");
        made("rowO", "row_o", "rowO");
        made("x1Y2", "x1_y2", "x1Y2");
    }

    private static void allLetters() {
        for (char small = 'a'; small <= 'z'; small++) {
            char great = (char) (small - 32);
            made("q" + great + small, "q_" + small + small, "q" + great + small);
            made(great + "x" + small, small + "x" + small, small + "x" + small);
            made("q_" + small + "z", "q_" + small + "z", "q" + great + "z");
        }
    }

    private static void firstPartStaysSmall() {
        made("A", "a", "a");
        made("A_", "a", "a");
        made("A_B", "a_b", "aB");
        made("abc", "abc", "abc");
        made("Abc_Def", "abc_def", "abcDef");
    }

    private static void digits() {
        made("row_2", "row_2", "row2");
        made("row_2a", "row_2a", "row2a");
        made("row2", "row2", "row2");
        made("a_1_2B", "a_1_2_b", "a12B");
        for (char digit = '0'; digit <= '9'; digit++) {
            made("a" + digit + "_" + digit, "a" + digit + "_" + digit, "a" + digit + digit);
        }
    }

    private static void allElseStays() {
        turned("", 0, "");
        turned("", 1, "");
        turned(" \n\n ", 0, " \n\n ");
        turned("\n  aB  =\n 12 ;\n", 0, "\n  a_b  =\n 12 ;\n");
        turned(" if  a_b {\n}\nelse{call\nc_d( e_f ,0007 ) ;}while g<(1-2){ } ", 1,
                " if  aB {\n}\nelse{call\ncD( eF ,0007 ) ;}while g<(1-2){ } ");
    }

    private static void alikeNames() {
        cannotBeBoth("rowOf=row_of;");
        cannotBeBoth("row_of=1;b=2;call rowOf();");
        cannotBeBoth("a=A;");
        cannotBeBoth("a=a_;");
        cannotBeBoth("a_b=a__b;");
        cannotBe("row_2=row2;", 1);
        turned("row_2=row2;", 0, "row_2=row2;");
        turned("rowOf=rowOf+rowOf;", 0, "row_of=row_of+row_of;");
        turned("rowOf=rowof;", 0, "row_of=rowof;");
        cannotBeBoth("if x{" + "y=1;".repeat(30) + "}aB=1;" + "z=2;".repeat(10) + "while w{AB=1;}");
        HouseManner x = CHECKS.with("rowOf=1;", "row_of=1;");
        CHECKS.due("alike in another text", 9, () -> x.turn(0, 0));
    }

    private static void keywords() {
        String[] words = {"if", "else", "while", "call"};
        for (String word : words) {
            String great = word.substring(0, 1).toUpperCase() + word.substring(1);
            for (String name : new String[] {word + "_", word + "__", great, great + "_"}) {
                cannotBeBoth(name + "=1;");
                cannotBeBoth("a=1;call " + name + "();");
                cannotBeBoth("b=2+" + name + ";");
            }
            made(word + "_a", word + "_a", word + "A");
            made("a" + great, "a_" + word, "a" + great);
            made(word + "1", word + "1", word + "1");
        }
        made("IF", "i_f", "iF");
    }

    /** A NAME begins with a letter, so none comes to either; these come nearest, and can be turned. */
    private static void leastParts() {
        made("a_", "a", "a");
        made("Z_______________", "z", "z");
        made("a_1", "a_1", "a1");
        made("A__9_", "a_9", "a9");
        made("b0", "b0", "b0");
    }

    private static void longNames() {
        made("abcdefgh_ijklmno", "abcdefgh_ijklmno", "abcdefghIjklmno");
        made("abcdefghIjklmno", "abcdefgh_ijklmno", "abcdefghIjklmno");
        made("aBCDEFGH", "a_b_c_d_e_f_g_h", "aBCDEFGH");
        made("aBCDEFGHi", "a_b_c_d_e_f_g_hi", "aBCDEFGHi");
        cannotBe("abcdefghIjklmnop=1;", 0);
        cannotBe("a=1;b=abcdefghijklmnO1;", 0);
        cannotBe("aBCDEFGHI=1;", 0);
        cannotBe("call ABCDEFGHIJKLMNOP();", 0);
        turned("abcdefghIjklmnop=1;", 1, "abcdefghIjklmnop=1;");
        turned("call ABCDEFGHIJKLMNOP();", 1, "call aBCDEFGHIJKLMNOP();");
        made("abcdefghijklmnop", "abcdefghijklmnop", "abcdefghijklmnop");
        made("Abcdefghijklmno_", "abcdefghijklmno", "abcdefghijklmno");
    }

    private static void longTexts() {
        String just = "aB=cD;" + " ".repeat(792);
        turned(just, 0, "a_b=c_d;" + " ".repeat(792));
        cannotBe(just + " ", 0);
        cannotBe(just + "  ", 0);
        turned(just + "  ", 1, just + "  ");
        cannotBe(" ".repeat(795) + "a=bC;", 0);
        turned(" ".repeat(794) + "a=bC;", 0, " ".repeat(794) + "a=b_c;");
    }

    private static void houseIs(int want, String... texts) {
        HouseManner x = CHECKS.with(texts);
        CHECKS.due("house of " + String.join(" ", texts), want, () -> x.house());
    }

    private static void oneMore() {
        houseIs(0, "a_b=1;");
        houseIs(1, "aB=1;");
        houseIs(0, "a_b=a_b+aB;");
        houseIs(1, "a_b=aB+aB;");
        houseIs(0, "aB=1;", "a_b=c_d;");
        houseIs(1, "aB=cD;", "a_b=1;");
    }

    private static void asMany() {
        houseIs(-1);
        houseIs(-1, "");
        houseIs(-1, "a=1;");
        houseIs(-1, "a_b=aB;");
        houseIs(-1, "a_b=c_d;", "aB=cD;");
    }

    private static void justAsMade() {
        houseIs(-1, "a__b=1;");
        houseIs(-1, "a_b_=1;");
        houseIs(-1, "AB=1;");
        houseIs(-1, "Ab_c=1;");
        houseIs(-1, "a_B=1;");
        houseIs(-1, "A_b=1;");
        houseIs(1, "aB=A_b+a__b+c_D+e_f_+AbC;");
        houseIs(0, "a_b=A_b+a__b+c_D+e_f_+AbC;");
    }

    private static void placesOfAllTexts() {
        houseIs(1, "aB=aB+aB;", "c_d=e_f;");
        HouseManner x = new HouseManner();
        for (int t = 0; t < 12; t++) {
            Checks.put(x, t, t % 4, t < 6 ? "aB=1;" : "a_b=1;");
        }
        CHECKS.due("as many", -1, () -> x.house());
        x.drop(0);
        CHECKS.due("without the first", 0, () -> x.house());
        x.drop(10);
        x.drop(11);
        CHECKS.due("without the last two", 1, () -> x.house());
        houseIs(0, "if a_b{call c_d(e_f);while g_h{i_j=1;}}else{k=lM+nO+pQ+rS;}");
    }

    private static void twoPartsOrMore() {
        houseIs(-1, "a=b+c1+d2e;");
        houseIs(0, "a=a_b+c+d+e;");
        houseIs(1, "a=bcd+eFG;");
        houseIs(0, "row_2=row2+row3;");
        houseIs(-1, "if a{while b{call c(1);}}else{}");
        houseIs(-1, "A=b_;");
    }
}
