/** Promise 10: pictures of equal effect, and which are kept. */
public final class SameTest {
    public static void main(String[] args) {
        Checks checks = new Checks("promise 10, same");
        pairs(checks);
        currencies(checks);
        kept(checks);
        checks.end();
    }

    private static void pairs(Checks checks) {
        same(checks, "9", "9", true);
        same(checks, "999", "9(3)", true);
        same(checks, "9(2)9", "99(2)", true);
        same(checks, "s9v9", "S9V9", true);
        same(checks, "99cr", "99CR", true);
        same(checks, "99CR", "99DB", false);
        same(checks, "99", "999", false);
        same(checks, "9B9", "99B", false);
        same(checks, "S9", "9", false);
        same(checks, "Z", "*", false);
        same(checks, "9+", "9-", false);
        same(checks, "+9", "9+", false);
        // V at the end of all digits.
        same(checks, "99V", "99", true);
        same(checks, "9V9", "99", false);
        same(checks, "9V9", "99V", false);
        same(checks, "9VCR", "9CR", true);
        same(checks, "9V+", "9+", true);
        same(checks, "9BVB", "9B(2)", true);
        same(checks, "9VB", "9BV", true);
        same(checks, "++V", "++", true);
        same(checks, "+V+", "++", false);
        same(checks, "V++", "++", false);
        same(checks, "99.", "99", false);
        same(checks, "99.", "99V", false);
        // V behind P of kind 17, and ahead of P of kind 16.
        same(checks, "9PPV", "9PP", true);
        same(checks, "9PV-", "9P-", true);
        same(checks, "VPP9", "PP9", true);
        same(checks, "SVP9", "SP9", true);
        same(checks, "VP9", "V9", false);
        same(checks, "VP9", "PP9", false);
        same(checks, "V9", "9", false);
        same(checks, "X(9999)", "X(9998)X", true);
        same(checks, "A", "X", false);
    }

    private static void same(Checks checks, String one, String other, boolean want) {
        PictureRows rows = Checks.good(one);
        Checks.read(rows, other);
        checks.due(other + " same as " + one, rows.same(0), want);
        checks.due(other + " same as itself", rows.same(1), true);
        rows = Checks.good(other);
        Checks.read(rows, one);
        checks.due(one + " same as " + other, rows.same(0), want);
    }

    private static void currencies(Checks checks) {
        PictureRows rows = new PictureRows();
        Checks.read(rows, "$9");
        Checks.read(rows, "$$9");
        rows.currency('#');
        checks.due("read() of #(2)9", Checks.read(rows, "#(2)9"), 3);
        checks.due("#(2)9 same as $$9", rows.same(1), true);
        checks.due("#(2)9 same as $9", rows.same(0), false);
        checks.due("read() of #9V", Checks.read(rows, "#9V"), 2);
        checks.due("#9V same as $9", rows.same(0), true);
    }

    private static void kept(Checks checks) {
        PictureRows rows = new PictureRows();
        checks.due("same(0) without one", rows.same(0), false);
        for (int n = 0; n < 40; n++) {
            checks.due("same(" + n + ") before it is kept", rows.same(n), false);
            Checks.read(rows, n % 2 == 0 ? "9" : "X");
            checks.due("same(" + n + ") of the latest", rows.same(n), true);
            checks.due("same(0) after " + n, rows.same(0), n % 2 == 0);
        }
        Checks.read(rows, "N");
        checks.due("the 41st is the latest", rows.category(), 5);
        checks.due("the 41st is not kept", rows.same(40), false);
        checks.due("nor in place of another", rows.same(39) || rows.same(0), false);
        Checks.read(rows, "X");
        checks.due("the 42nd is the latest", rows.same(39), true);
        checks.due("the 42nd is not kept", rows.same(41) || rows.same(40), false);
        for (int other : new int[] {-1, 40, 41, Integer.MIN_VALUE, Integer.MAX_VALUE}) {
            checks.due("same(" + other + ")", rows.same(other), false);
        }
    }
}
