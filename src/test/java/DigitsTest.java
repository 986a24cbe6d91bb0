/** Promise 5: digits on both sides of the point. */
public final class DigitsTest {
    public static void main(String[] args) {
        Checks checks = new Checks("promise 5, digits");
        digits(checks, "9", 1, 0);
        digits(checks, "S9(5)V99", 5, 2);
        digits(checks, "9(31)", 31, 0);
        digits(checks, "V9(31)", 0, 31);
        digits(checks, "9.9(3)", 1, 3);
        digits(checks, ".99", 0, 2);
        digits(checks, "99.", 2, 0);
        digits(checks, "ZZ,ZZ9.99-", 5, 2);
        digits(checks, "**.**", 2, 2);
        digits(checks, "PP99", 0, 4);
        digits(checks, "VPP99", 0, 4);
        digits(checks, "SP(3)9", 0, 4);
        digits(checks, "99PP", 4, 0);
        digits(checks, "99PPV", 4, 0);
        digits(checks, "99PPCR", 4, 0);
        digits(checks, "$$,$$9.99", 4, 2);
        digits(checks, "$9.99", 1, 2);
        digits(checks, "++", 1, 0);
        digits(checks, "+.++", 0, 2);
        digits(checks, "+.+", 0, 1);
        digits(checks, "V++", 0, 1);
        digits(checks, "++V", 1, 0);
        digits(checks, "+(4).+(3)", 3, 3);
        digits(checks, "$--9V9", 2, 1);
        digits(checks, "9B0/,9", 2, 0);
        digits(checks, "P$$", 0, 2);
        for (String text : new String[] {"A", "X9", "9BX", "N", "N0"}) {
            digits(checks, text, PictureRows.NONE, PictureRows.NONE);
        }
        for (int side : new int[] {-1, 2, 3, Integer.MIN_VALUE, Integer.MAX_VALUE}) {
            checks.due("digits(" + side + ")", Checks.good("99V9").digits(side), PictureRows.NONE);
            checks.due("digits(" + side + ") without one", new PictureRows().digits(side), PictureRows.NONE);
        }
        checks.due("digits(0) without one", new PictureRows().digits(0), PictureRows.NONE);
        checks.due("digits(1) without one", new PictureRows().digits(1), PictureRows.NONE);
        checks.end();
    }

    private static void digits(Checks checks, String text, int ahead, int behind) {
        PictureRows rows = Checks.good(text);
        checks.due("digits(0) of " + text, rows.digits(0), ahead);
        checks.due("digits(1) of " + text, rows.digits(1), behind);
    }
}
