/** Promise 1: no text, no picture. */
public final class NewObjectTest {
    public static void main(String[] args) {
        Sentences promise = new Sentences("promise 1, a new object");
        noText(promise.test("No text"));
        noPicture(promise.test("no picture"));
        nothingShared(promise.test("No text, no picture, whatever another object has"));
        promise.end();
    }

    private static void noText(Checks checks) {
        checks.due("read()", new PictureRows().read(), -1);
        checks.picture("9", 1);
        // Place 0 is told, so nothing stands ahead of it.
        checks.wrongAt("!", 0);
        PictureRows rows = new PictureRows();
        checks.due("read()", rows.read(), -1);
        checks.due("read() once more", rows.read(), -1);
        checks.due("category() after it", rows.category(), Checks.NONE);
        checks.due("same(0) after it", rows.same(0), false);
    }

    // A new object for each call, so that none leans on one that came before it.
    private static void noPicture(Checks checks) {
        checks.due("category()", new PictureRows().category(), Checks.NONE);
        checks.due("scale()", new PictureRows().scale(), 0);
        checks.due("currency(35)", new PictureRows().currency('#'), '$');
        for (int n : new int[] {Checks.MIN, -1, 0, 1, 2, 6, 7, 39, 40, 79, 80, 9999, Checks.MAX}) {
            checks.due("digits(" + n + ")", new PictureRows().digits(n), Checks.NONE);
            checks.due("at(" + n + ")", new PictureRows().at(n), Checks.NONE);
            checks.due("same(" + n + ")", new PictureRows().same(n), false);
            checks.due("insertion(" + n + ")", new PictureRows().insertion(n), Checks.NONE);
        }
        PictureRows rows = new PictureRows();
        Checks.write(rows, "99V9");
        checks.due("category() of a text not yet read", rows.category(), Checks.NONE);
        checks.due("at(0) of a text not yet read", rows.at(0), Checks.NONE);
        checks.due("same(0) of a text not yet read", rows.same(0), false);
    }

    private static void nothingShared(Checks checks) {
        PictureRows one = checks.good("99V9");
        one.currency('#');
        Checks.write(one, "XX");
        PictureRows other = new PictureRows();
        checks.due("read() of the other", other.read(), -1);
        checks.due("category() of the other", other.category(), Checks.NONE);
        checks.due("same(0) of the other", other.same(0), false);
        checks.due("currency(64) of the other", other.currency('@'), '$');
        checks.due("read() of the one", one.read(), 2);
        checks.due("currency(64) of the one", one.currency('@'), '#');
    }
}
