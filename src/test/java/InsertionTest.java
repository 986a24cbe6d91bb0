/** Promise 11: how many signs of each kind of insertion there are. */
public final class InsertionTest {
    public static void main(String[] args) {
        Checks checks = new Checks("promise 11, insertion");
        insertions(checks, "9", 0, 0, 0, 0, 0, 0, 0);
        insertions(checks, "XB(4)X0(3)/X", 4, 3, 1, 0, 0, 0, 0);
        insertions(checks, "$Z,ZZ9.99DB", 0, 0, 0, 1, 1, 1, 1);
        insertions(checks, "$$,$$9.99CR", 0, 0, 0, 1, 1, 1, 0);
        insertions(checks, "+9,(3)9", 0, 0, 0, 3, 0, 1, 0);
        insertions(checks, "9b9b/-", 2, 0, 1, 0, 0, 1, 0);
        insertions(checks, "++,++9.9", 0, 0, 0, 1, 1, 0, 0);
        insertions(checks, "+$9", 0, 0, 0, 0, 0, 1, 1);
        insertions(checks, "NB0/", 1, 1, 1, 0, 0, 0, 0);
        insertions(checks, "S9V9", 0, 0, 0, 0, 0, 0, 0);
        insertions(checks, "9B(9998)", 9998, 0, 0, 0, 0, 0, 0);
        PictureRows rows = Checks.good("9B");
        for (int kind : new int[] {-1, 7, 8, Integer.MIN_VALUE, Integer.MAX_VALUE}) {
            checks.due("insertion(" + kind + ")", rows.insertion(kind), PictureRows.NONE);
        }
        for (int kind = -1; kind <= 7; kind++) {
            checks.due("insertion(" + kind + ") without one", new PictureRows().insertion(kind), PictureRows.NONE);
        }
        checks.end();
    }

    private static void insertions(Checks checks, String text, int... want) {
        PictureRows rows = Checks.good(text);
        for (int kind = 0; kind < want.length; kind++) {
            checks.due("insertion(" + kind + ") of " + text, rows.insertion(kind), want[kind]);
        }
    }
}
