/** Promise 8: which characters become the currency sign, and what that changes. */
public final class CurrencyTest {
    private static final String REFUSED = "0123456789ABCDENPRSVXZabcdenprsvxz*+-,./;()='\"";

    public static void main(String[] args) {
        Checks checks = new Checks("promise 8, currency");
        whichOnes(checks);
        reading(checks);
        checks.end();
    }

    private static void whichOnes(Checks checks) {
        PictureRows rows = new PictureRows();
        int before = '$';
        for (int c = -2; c < 300; c++) {
            boolean taken = c >= 33 && c <= 126 && REFUSED.indexOf(c) < 0;
            checks.due("currency(" + c + ")", rows.currency(c), taken ? before : PictureRows.NONE);
            before = taken ? c : before;
        }
        for (int c : new int[] {Integer.MIN_VALUE, Integer.MAX_VALUE, 65536 + '#', -65536 + '#'}) {
            checks.due("currency(" + c + ")", rows.currency(c), PictureRows.NONE);
        }
        checks.due("a refused one changes nothing", rows.currency('$'), '~');
    }

    private static void reading(Checks checks) {
        PictureRows rows = new PictureRows();
        rows.currency('q');
        checks.due("read() of q9", Checks.read(rows, "q9"), 2);
        checks.due("read() of Q9", Checks.read(rows, "Q9"), -1);
        checks.due("read() of $9", Checks.read(rows, "$9"), -1);
        rows.currency('Q');
        checks.due("read() of q9", Checks.read(rows, "q9"), -1);
        Checks.write(rows, "QQ");
        rows.currency('#');
        checks.due("the sign of the time of reading counts", rows.read(), -1);
        Checks.write(rows, "##(2)9");
        checks.due("read() of ##(2)9", rows.read(), 4);
        checks.due("digits(0)", rows.digits(0), 3);
        rows.currency('@');
        checks.due("the picture keeps its own", rows.at(0), '#');
        checks.due("read() of @9@", Checks.read(rows, "@9@"), -3);
    }
}
