import java.util.Set;
import java.util.TreeSet;

/** Terms, of promise 3: which kind may stand behind which, and which signs stand once. */
public final class PlacesTest {
    private static final String[] PIECES = {"B", ",", ".", "+", "CR", "$", "Z", "++", "$$", "9", "X", "S", "V", "P", "N"};

    // Pairs that no text hangs on, a kind a row. 3 is the first sign; 16 has nothing but 3, 5, 14, 15, 16 ahead of it;
    // behind a point there is no 6, 8, 10; 5 is never with 10, 11. Behind 7, 9, 11 the point refuses them already, behind
    // 17 what is ahead of it; 13 and 18 refuse the point that 7, 9, 11 want; 3 and 8 or 9 are + and - both.
    private static final String[] UNSEEN = {
        "3 16", "3 16", "3 6 8 10 16", "3 8 9", "3 16", "3 5 10 11", "3 16", "2 3 5 6 8 10 13 14 15 16 17 18", "3 16",
        "2 3 5 6 8 10 13 14 15 16 17 18", "3 5 16", "2 3 5 6 8 10 13 14 15 16 17 18", "3 16", "3 7 9 11 16", "3",
        "3 6 8 10", "3 6 8 10", "3 5 14 16", "3 7 9 11 16"};

    public static void main(String[] args) {
        Sentences terms = new Sentences("promise 3, terms");
        table(terms.test("one whose kind may not come behind one that is ahead of it: each pair of kinds"));
        anywhere(terms.test("(anywhere, not just next to)"));
        once(terms.test("S, V and . stand once: a second one may not follow"));
        twoOfKinds(terms.test("nor may two of kind 3, 4, 5"));
        onePlusMinus(terms.test("3: + or -, of which (of that very one) there is one, as the first sign; 4: elsewhere"));
        manyPlusMinus(terms.test("8, 9: + or -, of which (of that very one) there are more"));
        currency(terms.test("5: the currency sign, of which there is one; 10, 11: of which there are more"));
        aheadBehind(terms.test("7, 9, 11 BEHIND: a . or V or P of kind 16 is ahead of them"));
        leadingP(terms.test("16: P ahead of which nothing but kinds 3, 5, 14, 15, 16 is; 17: other P"));
        rivals(terms.test("Z behind *, or * behind Z"));
        otherOne(terms.test("a + or - of kind 8 or 9 behind the other one"));
        terms.end();
    }

    private static void table(Checks checks) {
        Set<String> stood = new TreeSet<>();
        Set<String> told = new TreeSet<>();
        everyText(checks, "", 4, stood, told);
        PictureRows rows = new PictureRows();
        for (int a = 0; a < 19; a++) {
            for (int b = 0; b < 19; b++) {
                boolean seen = (rows.follows(a, b) ? stood : told).contains(a + " " + b);
                boolean due = !(" " + UNSEEN[a] + " ").contains(" " + b + " ");
                checks.due("a text hangs on the pair " + a + ", " + b, seen, due);
            }
        }
    }

    private static void everyText(Checks checks, String text, int more, Set<String> stood, Set<String> told) {
        Oracle oracle = new Oracle(text, '$');
        oracle.addPairs(stood, told);
        checks.picture(text, oracle.answer);
        for (int i = 0; more > 0 && i < PIECES.length; i++) {
            everyText(checks, text + PIECES[i], more - 1, stood, told);
        }
    }

    private static void anywhere(Checks checks) {
        // B may stand behind 9 and ahead of Z, but Z not behind 9.
        checks.wrongAt("9Z", 1);
        checks.wrongAt("9BZ", 2);
        checks.wrongAt("9B(9)Z", 5);
        checks.wrongAt("9" + "B".repeat(78) + "Z", 79);
        checks.wrongAt("XBBS", 3);
        checks.wrongAt("NBX", 2);
        checks.wrongAt("XBN", 2);
        checks.wrongAt("XB,", 2);
        checks.wrongAt(",BX", 2);
        checks.wrongAt("9CRB", 3);
        checks.picture("ZB9", 3);
        // The first that can't stand is told, not the one that it can't stand behind.
        checks.wrongAt("9B9Z9", 3);
    }

    private static void once(Checks checks) {
        checks.picture("S9", 1);
        checks.picture("S(1)9", 1);
        checks.wrongAt("S(2)9", 0);
        checks.wrongAt("SS9", 1);
        checks.wrongAt("S9S", 2);
        checks.wrongAt("SVS9", 2);
        checks.picture("9V9", 2);
        checks.picture("9V(1)9", 2);
        checks.wrongAt("9V(2)9", 1);
        checks.wrongAt("9VV9", 2);
        checks.wrongAt("9V9V9", 3);
        checks.wrongAt("9V9V", 3);
        checks.wrongAt("VP9V", 3);
        checks.wrongAt("9PVV", 3);
        checks.picture("9.9", 3);
        checks.picture("9.(1)9", 3);
        checks.wrongAt("9.(2)9", 1);
        checks.wrongAt("9..9", 2);
        checks.wrongAt("9.9.9", 3);
        checks.wrongAt("9.B.", 3);
        // . and V are the same point: one of both is enough.
        checks.wrongAt("9.9V", 3);
        checks.wrongAt("9V9.", 3);
        checks.wrongAt("9.V", 2);
        checks.wrongAt("9V.", 2);
    }

    private static void twoOfKinds(Checks checks) {
        // A second + or - ahead is no first sign; a second currency sign makes both of kind 10 or 11.
        checks.wrongAt("+-9", 1);
        checks.wrongAt("-+9", 1);
        checks.wrongAt("+$-9", 2);
        checks.picture("9CR", 3);
        checks.picture("9CR(1)", 3);
        checks.wrongAt("9CR(2)", 1);
        checks.wrongAt("9CRCR", 3);
        checks.wrongAt("9DB(2)", 1);
        checks.wrongAt("9CRDB", 3);
        checks.wrongAt("9DBCR", 3);
        checks.wrongAt("9+-", 2);
        checks.wrongAt("9-+", 2);
        checks.wrongAt("9+CR", 2);
        checks.wrongAt("9DB-", 3);
        checks.wrongAt("CRCR", 2);
        checks.picture("$9", 2);
        checks.wrongAt("$9$", 2);
        checks.wrongAt("9$$", 1);
    }

    private static void onePlusMinus(Checks checks) {
        for (String sign : new String[] {"+", "-"}) {
            checks.picture(sign + "9", 2);
            checks.picture(sign + "(1)9", 2);
            checks.picture("9" + sign, 2);
            checks.picture("9" + sign + "(1)", 2);
            checks.picture(sign + "$9", 3);
            checks.picture("$9" + sign, 3);
            checks.wrongAt("B" + sign + "9", 2);
            checks.wrongAt("$" + sign + "9", 2);
            checks.wrongAt("9" + sign + "9", 2);
            checks.wrongAt("S" + sign + "9", 1);
            checks.wrongAt(sign + "S9", 1);
            checks.wrongAt(sign + "X", 1);
            checks.wrongAt("X" + sign, 1);
        }
        checks.wrongAt("+9-", 2);
        checks.wrongAt("-9CR", 2);
    }

    private static void manyPlusMinus(Checks checks) {
        for (String sign : new String[] {"+", "-"}) {
            String two = sign + sign;
            checks.picture(two, 2);
            checks.picture(sign + "(2)", 2);
            checks.picture(two + "9", 3);
            checks.picture("B" + two + "9", 4);
            checks.picture("$" + two + "9", 4);
            checks.picture(two + "," + two, 5);
            // Two that stand apart are more than one, so of kind 8.
            checks.picture(sign + "B" + sign, 3);
            checks.wrongAt(sign + "9" + sign, 2);
            checks.wrongAt(sign + "$" + sign, 1);
            checks.wrongAt("9" + two, 1);
            checks.wrongAt(two + "CR", 2);
            checks.wrongAt(two + "Z", 2);
        }
    }

    private static void currency(Checks checks) {
        checks.picture("$9", 2);
        checks.picture("$(1)9", 2);
        checks.picture("+$9", 3);
        checks.wrongAt("9$", 1);
        checks.wrongAt("B$9", 1);
        checks.picture("$$", 2);
        checks.picture("$(2)", 2);
        checks.picture("$$9", 3);
        checks.picture("B$$", 3);
        checks.picture("+$$", 3);
        checks.picture("$,$", 3);
        checks.wrongAt("$+$", 2);
        checks.wrongAt("$Z$", 1);
        checks.wrongAt("9$$", 1);
        checks.picture("$++", 3);
        checks.wrongAt("$$++", 2);
        checks.wrongAt("++$$", 2);
    }

    private static void aheadBehind(Checks checks) {
        String[] points = {".", "V", "P"};
        String[] signs = {"Z", "*", "++", "--", "$$"};
        for (String sign : signs) {
            // 9 may come behind those ahead of the point, not behind those behind it.
            checks.good(sign + "9");
            for (String point : points) {
                checks.good(point + sign);
                checks.wrongAt(point + sign + "9", point.length() + sign.length());
            }
            checks.good(sign + "." + sign);
            checks.good(sign + "V" + sign);
            checks.good(sign + ".9");
            checks.wrongAt(sign + "." + sign + "9", 2 * sign.length() + 1);
            checks.wrongAt(sign + ".9" + sign, sign.length() + 2);
            // A P of kind 17 is no point ahead of them; it refuses them.
            checks.wrongAt(sign + "P" + sign, sign.length() + 1);
        }
        checks.picture("+.+", 3);
        checks.picture("$V$", 2);
    }

    private static void leadingP(Checks checks) {
        String[] ahead = {"", "+", "-", "$", "+$", "S", "V", "SV", "+V", "$V", "P", "VP", "SVP"};
        for (String text : ahead) {
            checks.good(text + "P9");
            checks.wrongAt(text + "P9P", text.length() + 2);
            checks.wrongAt(text + "PV9", text.length() + 1);
        }
        String[] others = {"B", "0", "/", ",", "9", "Z", "*", "++", "$$", "B9", "+9", "S9"};
        for (String text : others) {
            checks.wrongAt(text + "P9", text.length() + 1);
        }
        for (String text : new String[] {"9", "Z", "*", "++", "$$", "B9", "+9", "S9"}) {
            checks.good(text + "P");
            checks.good(text + "P(2)V");
        }
        checks.picture("9P+", 2);
        checks.picture("9PVCR", 3);
        checks.wrongAt("V9P", 2);
        checks.wrongAt(".P9", 1);
        checks.wrongAt("9P.", 2);
        checks.wrongAt("XP", 1);
        checks.wrongAt("PX", 1);
        checks.wrongAt("P$9", 1);
        checks.wrongAt("+P++", 2);
    }

    private static void rivals(Checks checks) {
        checks.picture("ZZ", 2);
        checks.picture("**", 2);
        checks.wrongAt("Z*", 1);
        checks.wrongAt("*Z", 1);
        checks.wrongAt("ZZB*", 3);
        checks.wrongAt("**,Z", 3);
        checks.wrongAt("Z.*", 2);
        checks.wrongAt("*.Z", 2);
        checks.wrongAt("ZV*", 2);
        checks.wrongAt("P*Z", 2);
        checks.wrongAt("Z(3)*(3)", 4);
    }

    private static void otherOne(Checks checks) {
        checks.wrongAt("++--", 2);
        checks.wrongAt("--++", 2);
        checks.wrongAt("+-+-", 1);
        checks.wrongAt("+--", 1);
        checks.wrongAt("-++", 1);
        checks.wrongAt("++.--", 3);
        checks.wrongAt("--V++", 3);
        checks.wrongAt(".++--", 3);
        checks.wrongAt("P++--", 3);
        checks.wrongAt("++,--", 3);
        checks.wrongAt("$++--", 3);
        checks.wrongAt("++-", 2);
        checks.picture("++.++", 5);
        checks.picture("--.--", 5);
    }
}
