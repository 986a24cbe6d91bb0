/** Promise 10: pictures of equal effect, and which are kept. */
public final class SameTest {
    public static void main(String[] args) {
        Sentences promise = new Sentences("promise 10, same");
        signsInOrder(promise.test("the same signs in their order"));
        currencies(promise.test("(the currency signs may differ)"));
        endOfDigits(promise.test("but for a V at the end of all digits"));
        behindP(promise.test("behind P of kind 17"));
        aheadOfP(promise.test("or ahead of P of kind 16"));
        tooSmall(promise.test("false when there is none such: too small"));
        tooLarge(promise.test("false when there is none such: too large"));
        noneKept(promise.test("false when there is none such: none kept, no picture"));
        full(promise.test("false when there is none such: the 41st is not kept"));
        promise.end();
    }

    private static void signsInOrder(Checks checks) {
        same(checks, "9", "9", true);
        same(checks, "999", "9(3)", true);
        same(checks, "9(2)9", "99(2)", true);
        same(checks, "s9v9", "S9V9", true);
        same(checks, "99cr", "99CR", true);
        same(checks, "99CR", "99DB", false);
        same(checks, "99", "999", false);
        same(checks, "9B9", "99B", false);
        same(checks, "S9", "9", false);
        same(checks, "Z", "*", false);
        same(checks, "9+", "9-", false);
        same(checks, "+9", "9+", false);
        same(checks, "X(9999)", "X(9998)X", true);
        same(checks, "X(9999)", "X(9998)", false);
        same(checks, "A", "X", false);
        same(checks, "B09", "0B9", false);
        same(checks, "P9", "9P", false);
        same(checks, "PP9", "P9", false);
    }

    private static void currencies(Checks checks) {
        PictureRows rows = new PictureRows();
        checks.goodNext(rows, "$9");
        checks.goodNext(rows, "$$9");
        rows.currency('#');
        checks.due("read() of #(2)9", Checks.read(rows, "#(2)9"), 3);
        checks.due("#(2)9 same as $$9", rows.same(1), true);
        checks.due("#(2)9 same as $9", rows.same(0), false);
        checks.due("#(2)9 same as itself", rows.same(2), true);
        checks.due("read() of #9V", Checks.read(rows, "#9V"), 2);
        checks.due("#9V same as $9", rows.same(0), true);
        rows.currency('~');
        checks.due("a change after reading is none", rows.same(0), true);
        checks.due("read() of 9", Checks.read(rows, "9"), 1);
        checks.due("9 same as $9", rows.same(0), false);
    }

    private static void endOfDigits(Checks checks) {
        same(checks, "9V", "9", true);
        same(checks, "99V", "99", true);
        same(checks, "99V", "9(2)V(1)", true);
        same(checks, "S9V", "S9", true);
        same(checks, "ZV", "Z", true);
        same(checks, "++V", "++", true);
        same(checks, "$$V", "$$", true);
        same(checks, "9(31)V", "9(31)", true);
        // Behind it there may be signs that are no digits.
        same(checks, "9VCR", "9CR", true);
        same(checks, "9V+", "9+", true);
        same(checks, "9BVB", "9B(2)", true);
        same(checks, "9VB", "9BV", true);
        // One digit behind it is enough.
        same(checks, "9V9", "99", false);
        same(checks, "9V9", "99V", false);
        same(checks, "9V9", "9", false);
        same(checks, "V9", "9", false);
        same(checks, "9(30)V9", "9(31)", false);
        same(checks, "+V+", "++", false);
        same(checks, "V++", "++", false);
        same(checks, "9VB9", "9B9", false);
        same(checks, "9V9", "9V9", true);
        same(checks, "9V99", "99V9", false);
        // A . is no V.
        same(checks, "99.", "99", false);
        same(checks, "99.", "99V", false);
        same(checks, "9.9", "9V9", false);
    }

    private static void behindP(Checks checks) {
        same(checks, "9PV", "9P", true);
        same(checks, "9PPV", "9PP", true);
        same(checks, "9P(30)V", "9P(30)", true);
        same(checks, "9PV-", "9P-", true);
        same(checks, "9PVCR", "9PCR", true);
        same(checks, "ZPV", "ZP", true);
        same(checks, "9PV", "9V", false);
        same(checks, "9PV", "9PP", false);
        same(checks, "9PV", "9", false);
    }

    private static void aheadOfP(Checks checks) {
        same(checks, "VP9", "P9", true);
        same(checks, "VPP9", "PP9", true);
        same(checks, "VP(30)9", "P(30)9", true);
        same(checks, "SVP9", "SP9", true);
        same(checks, "+VP9", "+P9", true);
        same(checks, "$VP9", "$P9", true);
        same(checks, "+$VP9", "+$P9", true);
        same(checks, "VPZ", "PZ", true);
        same(checks, "VP9", "V9", false);
        same(checks, "VP9", "PP9", false);
        same(checks, "VP9", "9", false);
        same(checks, "SVP9", "P9", false);
    }

    private static void tooSmall(Checks checks) {
        PictureRows rows = checks.good("9");
        for (int other : new int[] {-1, -2, -40, -65536, Checks.MIN, Checks.MIN + 1}) {
            checks.due("same(" + other + ")", rows.same(other), false);
        }
        checks.due("same(0) just beside", rows.same(0), true);
    }

    private static void tooLarge(Checks checks) {
        PictureRows rows = checks.good("9");
        for (int kept = 1; kept <= 40; kept++) {
            checks.due("same(" + (kept - 1) + ") of " + kept, rows.same(kept - 1), true);
            for (int other : new int[] {kept, kept + 1, 40, 41, 65536, Checks.MAX - 1, Checks.MAX}) {
                checks.due("same(" + other + ") of " + kept, rows.same(other), false);
            }
            checks.goodNext(rows, "9");
        }
    }

    private static void noneKept(Checks checks) {
        PictureRows rows = new PictureRows();
        for (int round = 0; round < 2; round++) {
            for (int other : new int[] {Checks.MIN, -1, 0, 1, 39, 40, Checks.MAX}) {
                checks.due("same(" + other + ")", rows.same(other), false);
            }
            Checks.read(rows, "9S");
        }
        checks.goodNext(rows, "9");
        checks.due("same(0) with one", rows.same(0), true);
        checks.due("same(1) with one", rows.same(1), false);
    }

    private static void full(Checks checks) {
        PictureRows rows = new PictureRows();
        for (int n = 0; n < 40; n++) {
            checks.goodNext(rows, n % 2 == 0 ? "9" : "X");
            checks.due("same(" + n + ") of the latest", rows.same(n), true);
            checks.due("same(0) after " + n, rows.same(0), n % 2 == 0);
        }
        checks.goodNext(rows, "N");
        checks.due("the 41st is not kept", rows.same(40), false);
        checks.due("nor in place of another", rows.same(39) || rows.same(0), false);
        checks.goodNext(rows, "X");
        checks.due("the 42nd is as the 40th", rows.same(39), true);
        checks.due("the 42nd is not kept", rows.same(41) || rows.same(40), false);
    }

    private static void same(Checks checks, String one, String other, boolean want) {
        PictureRows rows = checks.good(one);
        checks.goodNext(rows, other);
        checks.due(other + " same as " + one, rows.same(0), want);
        checks.due(other + " same as itself", rows.same(1), true);
        rows = checks.good(other);
        checks.goodNext(rows, one);
        checks.due(one + " same as " + other, rows.same(0), want);
    }
}
