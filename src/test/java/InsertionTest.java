/** Promise 11: how many signs of each kind of insertion there are. */
public final class InsertionTest {
    private static final int[] OTHERS = {Checks.MIN, Checks.MIN + 1, -65536, -2, -1, 7, 8, 32, 65536, Checks.MAX};

    public static void main(String[] args) {
        Sentences promise = new Sentences("promise 11, insertion");
        howMany(promise.test("How many signs of a kind of insertion the latest picture has"));
        plusMinus(promise.test("5 those of kinds 3 and 4 (CR, DB one)"));
        currency(promise.test("6 kind 5"));
        most(promise.test("How many signs: none, one, and as many as there can be"));
        others(promise.test("NONE for others"));
        withoutOne(promise.test("or without one"));
        promise.end();
    }

    private static void howMany(Checks checks) {
        insertions(checks, "9", 0, 0, 0, 0, 0, 0, 0);
        insertions(checks, "S9V9", 0, 0, 0, 0, 0, 0, 0);
        insertions(checks, "XB(4)X0(3)/X", 4, 3, 1, 0, 0, 0, 0);
        insertions(checks, "$Z,ZZ9.99DB", 0, 0, 0, 1, 1, 1, 1);
        insertions(checks, "$$,$$9.99CR", 0, 0, 0, 1, 1, 1, 0);
        insertions(checks, "+9,(3)9", 0, 0, 0, 3, 0, 1, 0);
        insertions(checks, "9b9b/-", 2, 0, 1, 0, 0, 1, 0);
        insertions(checks, "NB0/", 1, 1, 1, 0, 0, 0, 0);
    }

    private static void plusMinus(Checks checks) {
        for (String text : new String[] {"+9", "-9", "9+", "9-", "9CR", "9DB", "9cr(1)"}) {
            insertions(checks, text, 0, 0, 0, 0, 0, 1, 0);
        }
        for (String text : new String[] {"++9", "--", "+(3)", "V++", "P--"}) {
            insertions(checks, text, 0, 0, 0, 0, 0, 0, 0);
        }
        insertions(checks, "+.+", 0, 0, 0, 0, 1, 0, 0);
    }

    private static void currency(Checks checks) {
        insertions(checks, "$9", 0, 0, 0, 0, 0, 0, 1);
        insertions(checks, "$(1)9", 0, 0, 0, 0, 0, 0, 1);
        insertions(checks, "+$9", 0, 0, 0, 0, 0, 1, 1);
        insertions(checks, "$++", 0, 0, 0, 0, 0, 0, 1);
        insertions(checks, "$$", 0, 0, 0, 0, 0, 0, 0);
        insertions(checks, "+$$", 0, 0, 0, 0, 0, 1, 0);
    }

    private static void most(Checks checks) {
        String[] signs = {"B", "0", "/", ","};
        for (int kind = 0; kind < signs.length; kind++) {
            checks.due("none: " + kind, checks.good("9").insertion(kind), 0);
            checks.due("one: " + kind, checks.good("9" + signs[kind]).insertion(kind), 1);
            checks.due("most: " + kind, checks.good("9" + signs[kind] + "(9998)").insertion(kind), 9998);
        }
        checks.due("one: 4", checks.good("9.").insertion(4), 1);
    }

    private static void others(Checks checks) {
        PictureRows rows = checks.good("$9B0/,.CR");
        for (int kind : OTHERS) {
            checks.due("insertion(" + kind + ")", rows.insertion(kind), Checks.NONE);
        }
        for (int kind = 0; kind <= 6; kind++) {
            checks.due("insertion(" + kind + ") just beside", rows.insertion(kind), 1);
        }
    }

    private static void withoutOne(Checks checks) {
        PictureRows rows = new PictureRows();
        for (int round = 0; round < 2; round++) {
            for (int kind = 0; kind <= 6; kind++) {
                checks.due("insertion(" + kind + ")", rows.insertion(kind), Checks.NONE);
            }
            for (int kind : OTHERS) {
                checks.due("insertion(" + kind + ")", rows.insertion(kind), Checks.NONE);
            }
            Checks.read(rows, "9BS");
        }
        checks.goodNext(rows, "9B");
        checks.due("insertion(0) with one", rows.insertion(0), 1);
        Checks.read(rows, "9BS");
        checks.due("insertion(0) with one, after a refused one", rows.insertion(0), 1);
    }

    private static void insertions(Checks checks, String text, int... want) {
        PictureRows rows = checks.good(text);
        for (int kind = 0; kind < want.length; kind++) {
            checks.due("insertion(" + kind + ") of " + text, rows.insertion(kind), want[kind]);
        }
    }
}
