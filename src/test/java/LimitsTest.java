/** Terms, of promise 3: how many digits and how many signs a picture may have. */
public final class LimitsTest {
    public static void main(String[] args) {
        Sentences terms = new Sentences("promise 3, terms");
        digits(terms.test("one with which digits are more than 31"));
        digitsInParts(terms.test("one with which digits are more than 31, of several signs"));
        floating(terms.test("digits: of + - and currency signs that are more than one all but the first"));
        signs(terms.test("or signs more than 9999"));
        noSigns(terms.test("signs (CR, DB are two; S, V, P none)"));
        terms.end();
    }

    private static void digits(Checks checks) {
        for (String sign : new String[] {"9", "Z", "*"}) {
            checks.picture(sign + "(30)", 30);
            checks.picture(sign + "(31)", 31);
            checks.wrongAt(sign + "(32)", 0);
            checks.wrongAt(sign + "(9999)", 0);
            checks.picture(sign.repeat(31), 31);
            checks.wrongAt(sign.repeat(32), 31);
            checks.wrongAt(sign.repeat(33), 31);
        }
        checks.picture("9P(29)", 1);
        checks.picture("9P(30)", 1);
        checks.wrongAt("9P(31)", 1);
        checks.picture("P(30)9", 1);
        checks.wrongAt("P(31)9", 5);
        checks.wrongAt("P(32)9", 0);
        // P(31) is within the limit; it has no value.
        checks.wrongAt("P(31)", 5);
        checks.wrongAt("P(32)", 0);
    }

    private static void digitsInParts(Checks checks) {
        checks.picture("9(30)9", 31);
        checks.wrongAt("9(31)9", 5);
        checks.picture("9(15)V9(16)", 31);
        checks.wrongAt("9(15)V9(17)", 6);
        checks.wrongAt("9(31)V9", 6);
        checks.picture("Z(15)9(16)", 31);
        checks.wrongAt("Z(15)9(17)", 5);
        checks.picture("*(15).*(16)", 32);
        checks.wrongAt("*(15).*(17)", 6);
        checks.picture("9(30)P", 30);
        checks.wrongAt("9(31)P", 5);
        checks.picture("$9(31)", 32);
        checks.wrongAt("$9(32)", 1);
        checks.picture("+9(31)", 32);
        checks.wrongAt("+9(32)", 1);
        checks.picture("9(31)CR", 33);
        checks.wrongAt("9(32)CR", 0);
        checks.picture("9(31)BB", 33);
        // A 9 is a digit beside X too; A, X and N are none.
        checks.picture("X9(31)", 32);
        checks.wrongAt("X9(32)", 1);
        checks.picture("A(32)X(32)", 64);
        checks.picture("N(32)", 32);
    }

    private static void floating(Checks checks) {
        for (String sign : new String[] {"+", "-", "$"}) {
            checks.picture(sign + "(31)", 31);
            checks.picture(sign + "(32)", 32);
            checks.wrongAt(sign + "(33)", 0);
            checks.picture(sign.repeat(32), 32);
            checks.wrongAt(sign.repeat(33), 32);
            checks.picture(sign + sign + "(31)", 32);
            checks.wrongAt(sign + sign + "(32)", 1);
            checks.picture(sign + "(16)." + sign + "(16)", 33);
            checks.wrongAt(sign + "(16)." + sign + "(17)", 6);
            checks.picture(sign + "(30)," + sign + sign, 33);
            checks.wrongAt(sign + "(30)," + sign + sign + sign, 8);
            checks.picture(sign + "(2)9(30)", 32);
            checks.wrongAt(sign + "(2)9(31)", 4);
            checks.picture("V" + sign + "(32)", 32);
            checks.wrongAt("V" + sign + "(33)", 1);
        }
    }

    private static void signs(Checks checks) {
        for (String sign : new String[] {"X", "A", "N"}) {
            checks.picture(sign + "(9998)", 9998);
            checks.picture(sign + "(9998)" + sign, 9999);
            checks.wrongAt(sign + "(9999)" + sign, 7);
            checks.wrongAt(sign + "(9998)B(2)", 7);
            checks.wrongAt(sign + "(9998)BB", 8);
        }
        checks.picture("9(31)B(9968)", 9999);
        checks.wrongAt("9(31)B(9969)", 5);
        checks.picture("0(9998)9", 9999);
        checks.wrongAt("0(9999)9", 7);
        checks.picture(",(9997)99", 9999);
        checks.wrongAt(",(9998)99", 8);
        checks.wrongAt("B(9999)B(9999)B(9999)B(9999)9", 7);
        // The limit comes ahead of there being no value.
        checks.wrongAt("B(9999)", 7);
        checks.wrongAt("B(9999)B", 7);
    }

    private static void noSigns(Checks checks) {
        checks.picture("9B(9996)CR", 9999);
        checks.wrongAt("9B(9997)CR", 8);
        checks.picture("9B(9996)DB", 9999);
        checks.wrongAt("9B(9997)DB", 8);
        checks.picture("9B(9997)+", 9999);
        checks.wrongAt("9B(9998)+", 8);
        checks.picture("9B(9998)V", 9999);
        checks.picture("S9(31)", 31);
        checks.picture("VP(30)9B(9998)", 9999);
        checks.wrongAt("VP(30)9B(9999)", 7);
        checks.picture("B(9998)9P(30)V", 9999);
        checks.wrongAt("B(9998)9P(30)+", 13);
    }
}
