/** Promise 1: no text, no picture. */
public final class NewObjectTest {
    public static void main(String[] args) {
        Checks checks = new Checks("promise 1, a new object");
        PictureRows rows = new PictureRows();
        checks.due("category()", rows.category(), PictureRows.NONE);
        checks.due("digits(0)", rows.digits(0), PictureRows.NONE);
        checks.due("digits(1)", rows.digits(1), PictureRows.NONE);
        checks.due("digits(2)", rows.digits(2), PictureRows.NONE);
        checks.due("scale()", rows.scale(), 0);
        checks.due("at(0)", rows.at(0), PictureRows.NONE);
        checks.due("same(0)", rows.same(0), false);
        for (int kind = -1; kind <= 7; kind++) {
            checks.due("insertion(" + kind + ")", rows.insertion(kind), PictureRows.NONE);
        }
        checks.due("read() of no text", rows.read(), -1);
        checks.due("category() after it", rows.category(), PictureRows.NONE);
        checks.due("currency(35)", rows.currency('#'), '$');
        checks.due("another object's currency", new PictureRows().currency('#'), '$');
        checks.end();
    }
}
