/** Promise 8: which characters become the currency sign, and what that changes. */
public final class CurrencyTest {
    private static final String TAKEN = "!#$%&:<>?@FGHIJKLMOQTUWY[\\]^_`fghijklmoqtuwy{|}~";
    private static final String SIGN_LETTERS = "AXZBSVPN";

    public static void main(String[] args) {
        Sentences promise = new Sentences("promise 8, currency");
        whatItWas(promise.test("The currency sign becomes c: what it was"));
        range(promise.test("33 .. 126"));
        refused(promise.test("no digit"), "0123456789", "/:");
        letters(promise.test("no letter of either size that is a sign"), SIGN_LETTERS);
        letters(promise.test("C, D, E or R"), "CDER");
        refused(promise.test("none of * + - , . / ; ( ) = ' \""), "*+-,./;()='\"", "");
        everyOne(promise.test("NONE when c is not so: each character"));
        staysAsItWas(promise.test("NONE when c is not so: and it stays what it was"));
        reading(promise.test("the CURRENCY sign ($ at first; just as it is)"));
        promise.end();
    }

    private static void whatItWas(Checks checks) {
        PictureRows rows = new PictureRows();
        int before = '$';
        for (int i = 0; i < TAKEN.length(); i++) {
            checks.due("currency(" + TAKEN.charAt(i) + ")", rows.currency(TAKEN.charAt(i)), before);
            before = TAKEN.charAt(i);
        }
        checks.due("currency(~), which it is", rows.currency('~'), '~');
        checks.due("currency(q)", rows.currency('q'), '~');
        checks.due("currency(q), which it is", rows.currency('q'), 'q');
        checks.due("currency(Q)", rows.currency('Q'), 'q');
    }

    private static void range(Checks checks) {
        for (int c : new int[] {Checks.MIN, '#' - 65536, '#' - 256, -1, 0, 1, 31, 32, 127, 128, 129, '#' + 128, '#' + 256,
            '#' + 65536, Checks.MAX}) {
            checks.due("currency(" + c + ")", new PictureRows().currency(c), Checks.NONE);
        }
        for (int c : new int[] {33, 35, 36, 125, 126}) {
            checks.due("currency(" + c + ")", new PictureRows().currency(c), '$');
        }
    }

    private static void letters(Checks checks, String letters) {
        for (int i = 0; i < letters.length(); i++) {
            checks.due("currency(" + letters.charAt(i) + ")", new PictureRows().currency(letters.charAt(i)), Checks.NONE);
            int small = letters.charAt(i) + 32;
            checks.due("currency(" + (char) small + ")", new PictureRows().currency(small), Checks.NONE);
        }
        // Next to the letters of both sizes, and letters between them.
        for (char c : new char[] {'@', '[', '`', '{', 'F', 'f', 'O', 'o', 'Q', 'q', 'T', 't', 'W', 'w', 'Y', 'y'}) {
            checks.due("currency(" + c + ")", new PictureRows().currency(c), '$');
        }
    }

    private static void refused(Checks checks, String none, String beside) {
        for (int i = 0; i < none.length(); i++) {
            checks.due("currency(" + none.charAt(i) + ")", new PictureRows().currency(none.charAt(i)), Checks.NONE);
        }
        for (char c : (beside + "!#&<>:").replace("/", "").toCharArray()) {
            checks.due("currency(" + c + ")", new PictureRows().currency(c), '$');
        }
    }

    private static void everyOne(Checks checks) {
        for (int c = -300; c <= 600; c++) {
            boolean taken = c > 0 && TAKEN.indexOf(c) >= 0;
            checks.due("currency(" + c + ")", new PictureRows().currency(c), taken ? '$' : Checks.NONE);
        }
    }

    private static void staysAsItWas(Checks checks) {
        PictureRows rows = new PictureRows();
        rows.currency('#');
        for (int c : new int[] {Checks.MIN, -1, 0, 32, 127, 'A', 'a', 'C', 'd', '0', '9', '*', '"', '(', Checks.MAX}) {
            checks.due("currency(" + c + ")", rows.currency(c), Checks.NONE);
            checks.due("read() of #9", Checks.read(rows, "#9"), 2);
            checks.due("currency(35)", rows.currency('#'), '#');
        }
        checks.due("read() of A", Checks.read(rows, "A"), 1);
        checks.due("category() of A", rows.category(), 0);
    }

    private static void reading(Checks checks) {
        PictureRows rows = new PictureRows();
        checks.due("read() of $9 at first", Checks.read(rows, "$9"), 2);
        checks.due("read() of #9 at first", Checks.read(rows, "#9"), -1);
        rows.currency('q');
        checks.due("read() of q9", Checks.read(rows, "q9"), 2);
        checks.due("read() of Q9", Checks.read(rows, "Q9"), -1);
        checks.due("read() of $9", Checks.read(rows, "$9"), -1);
        rows.currency('Q');
        checks.due("read() of q9", Checks.read(rows, "q9"), -1);
        Checks.write(rows, "QQ");
        rows.currency('#');
        checks.due("the sign of the time of reading counts", rows.read(), -1);
        checks.due("read() of ##(2)9", Checks.read(rows, "##(2)9"), 4);
        checks.due("digits(0)", rows.digits(0), 3);
        rows.currency('@');
        checks.due("the picture keeps its own", rows.at(0), '#');
        checks.due("read() of @9@", Checks.read(rows, "@9@"), -3);
    }
}
