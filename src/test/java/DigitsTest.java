/** Promise 5: digits on both sides of the point. */
public final class DigitsTest {
    private static final int[] OTHER_SIDES = {Checks.MIN, -2, -1, 2, 3, 1 << 16, 1 << 31, Checks.MAX};

    public static void main(String[] args) {
        Sentences promise = new Sentences("promise 5, digits");
        atPoint(promise.test("The POINT is at . or V"));
        withoutPoint(promise.test("else ahead of P of kind 16, behind P of kind 17, else at the end of all"));
        floating(promise.test("DIGITS: of + - and currency signs that are more than one all but the first"));
        otherSides(promise.test("NONE for others"));
        withoutOne(promise.test("or without one"));
        otherCategories(promise.test("or if its category is not 3 or 4"));
        promise.end();
    }

    private static void atPoint(Checks checks) {
        digits(checks, "S9(5)V99", 5, 2);
        digits(checks, "9V", 1, 0);
        digits(checks, "V9", 0, 1);
        digits(checks, "9(31)V", 31, 0);
        digits(checks, "V9(31)", 0, 31);
        digits(checks, "9.9(3)", 1, 3);
        digits(checks, ".99", 0, 2);
        digits(checks, "99.", 2, 0);
        digits(checks, "ZZ,ZZ9.99-", 5, 2);
        digits(checks, "**.**", 2, 2);
        digits(checks, "VPP99", 0, 4);
        digits(checks, "99PPV", 4, 0);
        digits(checks, "$9.99", 1, 2);
        digits(checks, "9VB9CR", 1, 1);
    }

    private static void withoutPoint(Checks checks) {
        digits(checks, "P9", 0, 2);
        digits(checks, "PP99", 0, 4);
        digits(checks, "SP(3)9", 0, 4);
        digits(checks, "+$P9", 0, 2);
        digits(checks, "P(30)9", 0, 31);
        digits(checks, "PZZ", 0, 3);
        digits(checks, "9P", 2, 0);
        digits(checks, "99PP", 4, 0);
        digits(checks, "99PPCR", 4, 0);
        digits(checks, "9P(30)", 31, 0);
        digits(checks, "9", 1, 0);
        digits(checks, "9(31)", 31, 0);
        digits(checks, "9B0/,9", 2, 0);
        digits(checks, "9CR", 1, 0);
        digits(checks, "Z", 1, 0);
    }

    private static void floating(Checks checks) {
        digits(checks, "+9", 1, 0);
        digits(checks, "++", 1, 0);
        digits(checks, "+++", 2, 0);
        digits(checks, "--9", 2, 0);
        digits(checks, "$9", 1, 0);
        digits(checks, "$$", 1, 0);
        digits(checks, "$$,$$9.99", 4, 2);
        digits(checks, "+.+", 0, 1);
        digits(checks, "+.++", 0, 2);
        digits(checks, ".++", 0, 1);
        digits(checks, "V++", 0, 1);
        digits(checks, "++V", 1, 0);
        digits(checks, "+(4).+(3)", 3, 3);
        digits(checks, "$V$", 0, 1);
        digits(checks, "P$$", 0, 2);
        digits(checks, "$--9V9", 2, 1);
        digits(checks, "+$$", 1, 0);
        digits(checks, "$(32)", 31, 0);
    }

    private static void otherSides(Checks checks) {
        PictureRows rows = checks.good("99V9");
        for (int side : OTHER_SIDES) {
            checks.due("digits(" + side + ")", rows.digits(side), Checks.NONE);
        }
        checks.due("digits(0) just beside", rows.digits(0), 2);
        checks.due("digits(1) just beside", rows.digits(1), 1);
    }

    private static void withoutOne(Checks checks) {
        PictureRows rows = new PictureRows();
        for (int round = 0; round < 2; round++) {
            checks.due("digits(0)", rows.digits(0), Checks.NONE);
            checks.due("digits(1)", rows.digits(1), Checks.NONE);
            for (int side : OTHER_SIDES) {
                checks.due("digits(" + side + ")", rows.digits(side), Checks.NONE);
            }
            Checks.read(rows, "99S");
        }
        checks.goodNext(rows, "V9");
        checks.due("no digits are 0, not NONE", rows.digits(0), 0);
    }

    private static void otherCategories(Checks checks) {
        // Categories 0, 1, 2, 5, 6; then 3 and 4, with the signs that come next to them.
        for (String text : new String[] {"A", "X9", "9BX", "N", "N0"}) {
            digits(checks, text, Checks.NONE, Checks.NONE);
        }
        digits(checks, "9", 1, 0);
        digits(checks, "9B", 1, 0);
        PictureRows rows = checks.good("99V9");
        checks.goodNext(rows, "X9(5)");
        checks.due("digits(0) of the latest alone", rows.digits(0), Checks.NONE);
        checks.due("digits(1) of the latest alone", rows.digits(1), Checks.NONE);
    }

    private static void digits(Checks checks, String text, int ahead, int behind) {
        PictureRows rows = checks.good(text);
        checks.due("digits(0) of " + text, rows.digits(0), ahead);
        checks.due("digits(1) of " + text, rows.digits(1), behind);
    }
}
