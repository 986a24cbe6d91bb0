/** Terms, of promise 3: what is a sign, what is a count, and at which place one that is none is told. */
public final class SpellingTest {
    private static final String SIGNS = "AXZBSVPNaxzbsvpn90*/,.+-$";

    public static void main(String[] args) {
        Sentences terms = new Sentences("promise 3, terms");
        signs(terms.test("A PICTURE is a row of SIGNS (small letters count as great ones)"));
        noSigns(terms.test("one that is none"));
        letterPairs(terms.test("C without R, D without B, at the place of the sign"));
        counts(terms.test("a count, one to four digits, from 1 on"));
        noCounts(terms.test("a count that is none, at the place of the ("));
        openNotBehindSign(terms.test("a ( that is not behind a sign, at its place"));
        terms.end();
    }

    private static void signs(Checks checks) {
        for (int i = 0; i < SIGNS.length(); i++) {
            char sign = SIGNS.charAt(i);
            int answer = Checks.read(new PictureRows(), String.valueOf(sign));
            // A sign without a value is told by the text's length.
            checks.due(sign + " alone (answer " + answer + ") is a sign", answer == 1 || answer == -2, true);
        }
        PictureRows rows = checks.picture("azx9", -2);
        checks.due("read() of aXx9Bb", Checks.read(rows, "aXx9Bb"), 6);
        for (int i = 0; i < 6; i++) {
            checks.due("at(" + i + ") of aXx9Bb", rows.at(i), "AXX9BB".charAt(i));
        }
    }

    private static void noSigns(Checks checks) {
        for (char c = 1; c <= 127; c++) {
            if (SIGNS.indexOf(c) < 0) {
                checks.wrongAt(String.valueOf(c), 0);
                if (c != '(') {
                    checks.wrongAt("99" + c + "9", 2);
                }
            }
        }
        // Beside the signs in the row of characters.
        checks.allWrongAt(0, "1", "8", ":", "@", "Y", "[", "W", "Q", "`", "y", "{", "E", "#", "%", ")");
        checks.allWrongAt(1, "9 9", "95", "9R", "9)", "9E", "9#");
        checks.wrongAt("9!9?", 1);
    }

    private static void letterPairs(Checks checks) {
        for (String text : new String[] {"9CR", "9cr", "9Cr", "9cR", "9DB", "9db", "9Db", "9dB"}) {
            checks.picture(text, 3);
        }
        checks.allWrongAt(1, "9C", "9D", "9c", "9d", "9CB", "9DR", "9C9", "9D9", "9CC", "9DD", "9CCR", "9DDB", "9CDB",
                "9C R", "9C(2)R", "9D(2)B", "9C(", "9CA");
        checks.allWrongAt(0, "C", "D", "CB", "DR", "C9");
        // R is no sign by itself; B is one, which may not come behind DB.
        checks.wrongAt("9CRR", 3);
        checks.wrongAt("9DBB", 3);
        checks.wrongAt("9R", 1);
        checks.wrongAt("9CRC", 3);
        checks.picture("9B", 2);
    }

    private static void counts(Checks checks) {
        checks.picture("9(1)", 1);
        checks.picture("9(2)", 2);
        checks.picture("9(01)", 1);
        checks.picture("9(001)", 1);
        checks.picture("9(0001)", 1);
        checks.picture("9(0012)", 12);
        checks.picture("X(9)", 9);
        checks.picture("X(10)", 10);
        checks.picture("X(99)", 99);
        checks.picture("X(100)", 100);
        checks.picture("X(999)", 999);
        checks.picture("X(1000)", 1000);
        checks.picture("X(9998)", 9998);
        checks.picture("X(9999)", 9999);
        checks.picture("X(1234)B", 1235);
        checks.picture("9(3)V(1)9(2)", 5);
        checks.picture("S(1)9", 1);
        checks.picture("9(2)CR(1)", 4);
        checks.picture("9(2)db(01)", 4);
        checks.picture("0(3)9", 4);
        checks.picture("+(1)9", 2);
        checks.picture("$(1)9", 2);
        checks.picture("$(3)", 3);
        checks.picture("9P(2)", 1);
    }

    private static void noCounts(Checks checks) {
        checks.allWrongAt(1, "9(0)", "9(00)", "9(000)", "9(0000)");
        checks.allWrongAt(1, "9(00000)", "9(00001)", "X(10000)", "X(09999)", "9(12345)", "X(000000001)");
        checks.allWrongAt(1, "9()", "9(", "9(3", "9(12", "9(123", "9(1234", "9(12345");
        checks.allWrongAt(1, "9((", "9(()", "9((1))", "9(1(", "9(3(2))", "9(a)", "9(1a)", "9(a1)", "9(-1)", "9(+1)",
                "9( 1)", "9(1 )", "9(1.)", "9(1", "9(:)", "9(/)", "9(1:)", "9(1/)", "9(9", "9(]");
        // Behind two letters the ( has the third one's place.
        checks.allWrongAt(3, "9CR(0)", "9DB()", "9CR(", "9DB(00001)");
        checks.wrongAt("9(2)9(0)", 5);
        checks.wrongAt("$(0)9", 1);
    }

    private static void openNotBehindSign(Checks checks) {
        checks.allWrongAt(0, "(", "()", "(9)", "(1)9", "((9))");
        checks.allWrongAt(4, "9(2)(3)", "9(2)(", "9(2)(0)");
        checks.wrongAt("9CR(1)(1)", 6);
        // Behind a character that is no sign, that one is the first.
        checks.allWrongAt(1, "9!(2)", "9C(2)", "9)(2)");
    }
}
