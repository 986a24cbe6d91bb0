/** Promise 9: the signs of the latest picture one by one. */
public final class AtTest {
    public static void main(String[] args) {
        Checks checks = new Checks("promise 9, at");
        signs(checks, "9", "9");
        signs(checks, "s9(3)v9(2)", "S999V99");
        signs(checks, "SVP(3)9", "SVPPP9");
        signs(checks, "9(2)p(2)v", "99PPV");
        signs(checks, "$$,$$9.99cr", "$$,$$9.99CR");
        signs(checks, "99Db", "99DB");
        signs(checks, "z(3)b(2)/0,9", "ZZZBB/0,9");
        signs(checks, "*(2)9-", "**9-");
        signs(checks, "+(3)", "+++");
        signs(checks, "aX9", "AX9");
        signs(checks, "n(2)b", "NNB");
        PictureRows big = Checks.good("X(9999)");
        checks.due("at(9998)", big.at(9998), 'X');
        checks.due("at(9999)", big.at(9999), PictureRows.NONE);
        checks.due("at(MAX)", big.at(Integer.MAX_VALUE), PictureRows.NONE);
        PictureRows mixed = Checks.good("9B(9996)CR");
        checks.due("at(9996)", mixed.at(9996), 'B');
        checks.due("at(9997)", mixed.at(9997), 'C');
        checks.due("at(9998)", mixed.at(9998), 'R');
        checks.due("at(9999)", mixed.at(9999), PictureRows.NONE);
        checks.due("at(0) without one", new PictureRows().at(0), PictureRows.NONE);
        PictureRows rows = new PictureRows();
        rows.currency('q');
        Checks.read(rows, "q9");
        checks.due("the currency sign just as it is", rows.at(0), 'q');
        Checks.read(rows, "9!");
        checks.due("of the latest good one", rows.at(0), 'q');
        checks.end();
    }

    private static void signs(Checks checks, String text, String want) {
        PictureRows rows = Checks.good(text);
        for (int i = 0; i < want.length(); i++) {
            checks.due("at(" + i + ") of " + text, rows.at(i), want.charAt(i));
        }
        for (int i : new int[] {-1, Integer.MIN_VALUE, want.length(), want.length() + 1, Integer.MAX_VALUE}) {
            checks.due("at(" + i + ") of " + text, rows.at(i), PictureRows.NONE);
        }
    }
}
