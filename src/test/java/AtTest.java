/** Promise 9: the signs of the latest picture one by one. */
public final class AtTest {
    public static void main(String[] args) {
        Sentences promise = new Sentences("promise 9, at");
        signs(promise.test("Sign i of the latest picture, each as often as it stands"));
        letters(promise.test("(CR and DB two letters; S, V, P too)"));
        tooSmall(promise.test("NONE for none: too small"));
        tooLarge(promise.test("NONE for none: too large"));
        withoutOne(promise.test("NONE for none: no picture"));
        latest(promise.test("of the latest picture"));
        promise.end();
    }

    private static void signs(Checks checks) {
        signs(checks, "9", "9");
        signs(checks, "9(3)9(2)", "99999");
        signs(checks, "z(3)b(2)/0,9", "ZZZBB/0,9");
        signs(checks, "*(2)9-", "**9-");
        signs(checks, "+(3)", "+++");
        signs(checks, "aX9", "AX9");
        signs(checks, "n(2)b", "NNB");
        signs(checks, "$$,$$9.99", "$$,$$9.99");
    }

    private static void letters(Checks checks) {
        signs(checks, "s9(3)v9(2)", "S999V99");
        signs(checks, "SVP(3)9", "SVPPP9");
        signs(checks, "9(2)p(2)v", "99PPV");
        signs(checks, "$$,$$9.99cr", "$$,$$9.99CR");
        signs(checks, "99Db", "99DB");
        signs(checks, "9cR(1)", "9CR");
    }

    private static void tooSmall(Checks checks) {
        PictureRows rows = checks.good("X9");
        for (int i : new int[] {-1, -2, -65536, Checks.MIN, Checks.MIN + 1}) {
            checks.due("at(" + i + ")", rows.at(i), Checks.NONE);
        }
        checks.due("at(0) just beside", rows.at(0), 'X');
    }

    private static void tooLarge(Checks checks) {
        PictureRows rows = checks.good("X9");
        checks.due("at(1) just beside", rows.at(1), '9');
        for (int i : new int[] {2, 3, 79, 80, 9999, 65536, 65537, Checks.MAX - 1, Checks.MAX}) {
            checks.due("at(" + i + ")", rows.at(i), Checks.NONE);
        }
        PictureRows big = checks.good("X(9998)A");
        checks.due("at(9997)", big.at(9997), 'X');
        checks.due("at(9998)", big.at(9998), 'A');
        checks.due("at(9999)", big.at(9999), Checks.NONE);
        PictureRows mixed = checks.good("9B(9996)CR");
        checks.due("at(9996)", mixed.at(9996), 'B');
        checks.due("at(9997)", mixed.at(9997), 'C');
        checks.due("at(9998)", mixed.at(9998), 'R');
        checks.due("at(9999)", mixed.at(9999), Checks.NONE);
        // V and P are not counted among 9999, but are there.
        PictureRows over = checks.good("VP(30)9B(9998)");
        checks.due("at(30)", over.at(30), 'P');
        checks.due("at(31)", over.at(31), '9');
        checks.due("at(10029)", over.at(10029), 'B');
        checks.due("at(10030)", over.at(10030), Checks.NONE);
        PictureRows behind = checks.good("B(9998)9P(30)V");
        checks.due("at(10028)", behind.at(10028), 'P');
        checks.due("at(10029)", behind.at(10029), 'V');
        checks.due("at(10030)", behind.at(10030), Checks.NONE);
    }

    private static void withoutOne(Checks checks) {
        PictureRows rows = new PictureRows();
        for (int round = 0; round < 2; round++) {
            for (int i : new int[] {Checks.MIN, -1, 0, 1, 79, 80, Checks.MAX}) {
                checks.due("at(" + i + ")", rows.at(i), Checks.NONE);
            }
            Checks.read(rows, "9!");
        }
        checks.goodNext(rows, "9");
        checks.due("at(0) with one", rows.at(0), '9');
    }

    private static void latest(Checks checks) {
        PictureRows rows = checks.good("X(5)");
        rows.currency('q');
        checks.goodNext(rows, "q9");
        checks.due("the currency sign just as it is", rows.at(0), 'q');
        checks.due("no sign of the one before it", rows.at(2), Checks.NONE);
        Checks.read(rows, "9!");
        checks.due("of the latest good one", rows.at(0), 'q');
        rows.currency('#');
        checks.due("of the latest as it was read", rows.at(0), 'q');
    }

    private static void signs(Checks checks, String text, String want) {
        PictureRows rows = checks.good(text);
        for (int i = 0; i < want.length(); i++) {
            checks.due("at(" + i + ") of " + text, rows.at(i), want.charAt(i));
        }
        checks.due("at(-1) of " + text, rows.at(-1), Checks.NONE);
        checks.due("at(" + want.length() + ") of " + text, rows.at(want.length()), Checks.NONE);
    }
}
