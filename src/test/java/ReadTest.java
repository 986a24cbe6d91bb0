/** Promise 3: the number of signs, or the first sign that can't be there. */
public final class ReadTest {
    public static void main(String[] args) {
        Checks checks = new Checks("promise 3, read");
        goodOnes(checks);
        counts(checks);
        noSigns(checks);
        noSignsComeFirst(checks);
        order(checks);
        kinds(checks);
        limits(checks);
        withoutValue(checks);
        state(checks);
        checks.end();
    }

    private static void goodOnes(Checks checks) {
        checks.picture("9", 1);
        checks.picture("S9(5)V99", 7);
        checks.picture("s9(5)v99", 7);
        checks.picture("SVPP9", 1);
        checks.picture("S9PPV", 1);
        checks.picture("99CR", 4);
        checks.picture("99cR", 4);
        checks.picture("99Db", 4);
        checks.picture("$Z,ZZ9.99DB", 11);
        checks.picture("$$,$$9.99CR", 11);
        checks.picture("+$9", 3);
        checks.picture("$++9", 4);
        checks.picture("**,**9.99-", 10);
        checks.picture("B0/X", 4);
        checks.picture("nNb/0N", 6);
        checks.picture("azx9", -2);
        checks.picture("aax9", 4);
        checks.picture("+.+", 3);
        checks.picture("V++", 2);
        checks.picture("9.", 2);
        checks.picture(".9", 2);
    }

    private static void counts(Checks checks) {
        checks.picture("9(1)", 1);
        checks.picture("9(01)", 1);
        checks.picture("9(0012)", 12);
        checks.picture("X(9999)", 9999);
        checks.picture("9(3)V(1)9(2)", 5);
        checks.picture("9(2)CR(1)", 4);
        checks.picture("0(3)9", 4);
        checks.picture("+(1)9", 2);
        String[] none = {"9()", "9(0)", "9(00)", "9(0000)", "9(00001)", "9(12345)", "9(", "9(3", "9(1234", "9((",
            "9(a)", "9(1a)", "9(-1)", "9(+1)", "9( 1)", "9(1 )", "9(1.)", "9(1(", "9(3(2))"};
        for (String text : none) {
            checks.wrongAt(text, 1);
        }
        checks.wrongAt("9CR(0)", 3);
        checks.wrongAt("9(2)(3)", 4);
        checks.wrongAt("(9)", 0);
        checks.wrongAt("9)", 1);
    }

    private static void noSigns(Checks checks) {
        for (char c = 1; c <= 126; c++) {
            if ("AXZBSVPNaxzbsvpn90*/,.+-$".indexOf(c) < 0) {
                checks.wrongAt(String.valueOf(c), 0);
            }
        }
        checks.wrongAt("99C", 2);
        checks.wrongAt("99D", 2);
        checks.wrongAt("99CB", 2);
        checks.wrongAt("99DR", 2);
        checks.wrongAt("99C(2)R", 2);
        checks.wrongAt("99R", 2);
        checks.wrongAt("9 9", 1);
        checks.wrongAt("95", 1);
    }

    private static void noSignsComeFirst(Checks checks) {
        checks.wrongAt("9S9!", 3);
        checks.wrongAt("9S9(0)", 3);
        checks.wrongAt("9(32)C", 5);
        checks.wrongAt("B!", 1);
        checks.wrongAt("9!9?", 1);
    }

    private static void order(Checks checks) {
        checks.wrongAt("9S", 1);
        checks.wrongAt("SS9", 1);
        checks.wrongAt("S(2)9", 0);
        checks.wrongAt("9V9V", 3);
        checks.wrongAt("9V(2)", 1);
        checks.wrongAt("9.(2)9", 1);
        checks.wrongAt("9.9V", 3);
        checks.wrongAt("9V9.", 3);
        checks.wrongAt("9CR(2)", 1);
        checks.wrongAt("9CRDB", 3);
        checks.wrongAt("9CR9", 3);
        checks.wrongAt("9+-", 2);
        checks.wrongAt("+9-", 2);
        checks.wrongAt("+-9", 1);
        checks.wrongAt("+9CR", 2);
        checks.wrongAt("9$", 1);
        checks.wrongAt("$9$", 2);
        checks.wrongAt("ZZ9Z", 3);
        checks.wrongAt("Z*", 1);
        checks.wrongAt("*Z", 1);
        checks.wrongAt("Z.*", 2);
        checks.wrongAt("++--", 2);
        checks.wrongAt("--++", 2);
        checks.wrongAt("++.--", 3);
        checks.wrongAt("++$$", 2);
        checks.wrongAt("$$++", 2);
        checks.wrongAt("XN", 1);
        checks.wrongAt("N9", 1);
        checks.wrongAt("X,", 1);
        checks.wrongAt(",X", 1);
        // Not just next to it: B may stand behind 9 and ahead of Z.
        checks.wrongAt("9BZ", 2);
        checks.wrongAt("XBBS", 3);
    }

    private static void kinds(Checks checks) {
        // One + is kind 3 as the first sign, else 4; more are kind 8, behind the point 9.
        checks.picture("+9", 2);
        checks.picture("9+", 2);
        checks.wrongAt("B+9", 2);
        checks.picture("B++9", 4);
        checks.picture("+(2)", 2);
        checks.wrongAt("+9+", 2);
        checks.picture("++.++", 5);
        checks.wrongAt("++.++9", 5);
        checks.wrongAt(".++9", 3);
        checks.picture("++.99", 5);
        checks.picture("$$.$$", 5);
        checks.wrongAt("$$.$$9", 5);
        checks.wrongAt("Z.Z9", 3);
        checks.picture("Z.99", 4);
        // P ahead of which nothing but kinds 3, 5, 14, 15, 16 is, and other P.
        checks.picture("P9", 1);
        checks.picture("+$P9", 3);
        checks.picture("SPP9", 1);
        checks.picture("VPP9", 1);
        checks.wrongAt("PV9", 1);
        checks.wrongAt("V9P", 2);
        checks.wrongAt("P9P", 2);
        checks.wrongAt("9P9", 2);
        checks.wrongAt("BP9", 2);
        checks.wrongAt("9P.", 2);
        checks.wrongAt(".P9", 1);
        checks.picture("9PV", 1);
        checks.picture("9P+", 2);
        checks.picture("PZZ", 2);
        checks.wrongAt("PZ9", 2);
        checks.wrongAt("P$9", 1);
        checks.picture("P$$", 2);
        checks.wrongAt("P$$9", 3);
        checks.wrongAt("+P++", 2);
    }

    private static void limits(Checks checks) {
        checks.picture("9(31)", 31);
        checks.wrongAt("9(32)", 0);
        checks.wrongAt("9(31)9", 5);
        checks.picture("9(30)P", 30);
        checks.wrongAt("9(31)P", 5);
        checks.wrongAt("P(31)9", 5);
        checks.picture("Z(15)9(16)", 31);
        checks.wrongAt("Z(15)9(17)", 5);
        checks.wrongAt("*(32)", 0);
        checks.picture("+(32)", 32);
        checks.wrongAt("+(33)", 0);
        checks.picture("$(30),$$", 33);
        checks.wrongAt("$(30),$$$", 8);
        checks.picture("$9(31)", 32);
        checks.picture("+9(31)", 32);
        checks.picture("9(31)B(9968)", 9999);
        checks.wrongAt("9(31)B(9969)", 5);
        checks.wrongAt("X(9999)X", 7);
        checks.wrongAt("X(9998)B(2)", 7);
        checks.picture("9B(9998)", 9999);
        checks.picture("S9V9(30)", 31);
        checks.picture("9B(9996)CR", 9999);
        checks.wrongAt("9B(9997)CR", 8);
        checks.picture("9B(9998)V", 9999);
        // 9 is a digit in pictures with X too.
        checks.wrongAt("X9(32)", 1);
        // The first from the left, whatever is wrong with it.
        checks.wrongAt("9(32)S", 0);
        checks.wrongAt("9S9(32)", 1);
    }

    private static void withoutValue(Checks checks) {
        checks.wrongAt("", 0);
        checks.wrongAt("B", 1);
        checks.wrongAt("S", 1);
        checks.wrongAt("SV", 2);
        checks.wrongAt("P(5)", 4);
        checks.wrongAt("+", 1);
        checks.wrongAt("CR", 2);
        checks.wrongAt("$", 1);
        checks.wrongAt("+$", 2);
        checks.wrongAt("B(20)/,.", 8);
        checks.wrongAt("BPPV", 4);
        String[] good = {"A", "X", "9", "Z", "*", "N", "++", "--", "$$", "V++", "V$$"};
        for (String text : good) {
            checks.due("a value is in " + text, Checks.read(new PictureRows(), text) > 0, true);
        }
    }

    private static void state(Checks checks) {
        PictureRows rows = new PictureRows();
        checks.due("read() of X(5)", Checks.read(rows, "X(5)"), 5);
        checks.due("read() of S", Checks.read(rows, "S"), -2);
        checks.due("a wrong one is not the latest", rows.category(), 1);
        checks.due("read() of 9, behind a wrong text", Checks.read(rows, "9"), 1);
        checks.due("a good one is the latest", rows.category(), 3);
        checks.due("a wrong one has no number", rows.same(1), true);
        checks.due("nor are there more", rows.same(2), false);
        checks.due("read() of nothing", rows.read(), -1);
        checks.due("the latest stays", rows.category(), 3);
    }
}
