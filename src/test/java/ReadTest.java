/** Promise 3: the number of signs, or the first sign that can't be there; what is kept. */
public final class ReadTest {
    public static void main(String[] args) {
        Sentences promise = new Sentences("promise 3, read");
        howMany(promise.test("how many signs it has (CR, DB are two; S, V, P none)"));
        emptyText(promise.test("The text is read as a picture: an empty one"));
        isEmptyThen(promise.test("and is empty then"));
        refusedPlace(promise.test("-1 minus the place of the first one that can't be"));
        refusedState(promise.test("A good one is the latest picture: a refused one changes nothing"));
        keptByNumber(promise.test("and is kept by its number, from 0 on"));
        full(promise.test("the 41st and later ones are the latest ones, but not kept"));
        promise.end();
    }

    private static void howMany(Checks checks) {
        checks.picture("9", 1);
        checks.picture("S9(5)V99", 7);
        checks.picture("s9(5)v99", 7);
        checks.picture("SVPP9", 1);
        checks.picture("S9PPV", 1);
        checks.picture("SVP(30)9", 1);
        checks.picture("99CR", 4);
        checks.picture("99cR", 4);
        checks.picture("99Db", 4);
        checks.picture("9(2)CR(1)", 4);
        checks.picture("$Z,ZZ9.99DB", 11);
        checks.picture("$$,$$9.99CR", 11);
        checks.picture("+$9", 3);
        checks.picture("$++9", 4);
        checks.picture("**,**9.99-", 10);
        checks.picture("B0/X", 4);
        checks.picture("nNb/0N", 6);
        checks.picture("aax9", 4);
        checks.picture("+.+", 3);
        checks.picture("V++", 2);
        checks.picture("9.", 2);
        checks.picture(".9", 2);
        checks.picture("X(9999)", 9999);
    }

    private static void emptyText(Checks checks) {
        PictureRows rows = new PictureRows();
        checks.due("read() of nothing", rows.read(), -1);
        checks.due("category()", rows.category(), Checks.NONE);
        checks.due("read() of 9, one character", Checks.read(rows, "9"), 1);
        checks.due("read() of nothing behind a good one", rows.read(), -1);
        checks.due("category() of the good one", rows.category(), 3);
        checks.due("read() of nothing again", rows.read(), -1);
        checks.due("read() of X", Checks.read(rows, "X"), 1);
        checks.due("nothing took no number", rows.same(1), true);
        checks.due("and there is no number 2", rows.same(2), false);
    }

    private static void isEmptyThen(Checks checks) {
        PictureRows rows = new PictureRows();
        checks.due("read() of 99", Checks.read(rows, "99"), 2);
        checks.due("read() of nothing behind it", rows.read(), -1);
        checks.due("read() of X!", Checks.read(rows, "X!"), -2);
        checks.due("read() of nothing behind it", rows.read(), -1);
        checks.due("read() of 9S", Checks.read(rows, "9S"), -2);
        checks.due("read() of nothing behind it", rows.read(), -1);
        checks.due("read() of SV", Checks.read(rows, "SV"), -3);
        checks.due("read() of nothing behind it", rows.read(), -1);
        // What was begun in a refused text is not ended in the next one.
        checks.due("read() of 9C", Checks.read(rows, "9C"), -2);
        checks.due("read() of R", Checks.read(rows, "R"), -1);
        checks.due("read() of 9(", Checks.read(rows, "9("), -2);
        checks.due("read() of 2)", Checks.read(rows, "2)"), -1);
        // A C at the text's end is not made CR by what an earlier text had there.
        checks.due("read() of 9CR", Checks.read(rows, "9CR"), 3);
        checks.due("read() of 9C", Checks.read(rows, "9C"), -2);
        checks.due("read() of 9(2)", Checks.read(rows, "9(2)"), 2);
        checks.due("read() of 9(2", Checks.read(rows, "9(2"), -2);
        checks.due("read() of 9(", Checks.read(rows, "9("), -2);
    }

    private static void refusedPlace(Checks checks) {
        checks.allWrongAt(0, "!", "!9", "9(32)", "S(2)9", "");
        checks.allWrongAt(1, "9!", "9S", "9S9", "B", "azx9");
        checks.allWrongAt(2, "99!", "9BZ", "SV", "CR");
        checks.allWrongAt(79, "X".repeat(79) + "!", "X".repeat(79) + "S");
        checks.wrongAt("B".repeat(79), 79);
        checks.wrongAt("B".repeat(80), 80);
        // The first of two.
        checks.allWrongAt(1, "9!9?", "9S9S", "9SV9V", "9S9(32)");
        // A place counts characters of the text, not signs.
        checks.wrongAt("9(12)S", 5);
        checks.wrongAt("9(3)CR9", 6);
        checks.wrongAt("9(2)BBZ", 6);
        // One that is none is looked for first, in the whole text.
        checks.allWrongAt(3, "9S9!", "9S9(0)", "9V9?");
        checks.wrongAt("9(32)C", 5);
        checks.wrongAt("B!", 1);
        // Among the others the first from the left, whatever is wrong with it.
        checks.wrongAt("9(32)S", 0);
        checks.wrongAt("9V9S9(32)", 3);
        // That there is no value is told last.
        checks.wrongAt("BS", 1);
    }

    private static void refusedState(Checks checks) {
        PictureRows rows = checks.picture("X(5)", 5);
        for (String text : new String[] {"S", "9!", "9S", "9(32)", "X(9999)X", "9(0)", "", "B".repeat(80)}) {
            checks.due("refused: " + text, Checks.read(rows, text) < 0, true);
            checks.due("category() behind " + text, rows.category(), 1);
            checks.due("digits(0) behind " + text, rows.digits(0), Checks.NONE);
            checks.due("at(4) behind " + text, rows.at(4), 'X');
            checks.due("at(5) behind " + text, rows.at(5), Checks.NONE);
            checks.due("insertion(0) behind " + text, rows.insertion(0), 0);
            checks.due("same(0) behind " + text, rows.same(0), true);
            checks.due("same(1) behind " + text, rows.same(1), false);
        }
        checks.due("read() of 9V9", Checks.read(rows, "9V9"), 2);
        checks.due("a good one is the latest", rows.category(), 3);
        checks.due("and is number 1", rows.same(1), true);
        checks.due("number 0 is still the other", rows.same(0), false);
    }

    // A new object for each number, so that none comes to its 512th call.
    private static void keptByNumber(Checks checks) {
        for (int last = 0; last < 40; last++) {
            PictureRows rows = new PictureRows();
            for (int n = 0; n <= last; n++) {
                checks.due("same(" + n + ") before it is kept", rows.same(n), false);
                checks.goodNext(rows, "X(" + (n + 1) + ")");
            }
            for (int other = 0; other <= 41; other++) {
                checks.due("same(" + other + ") behind number " + last, rows.same(other), other == last);
            }
            checks.goodNext(rows, "X");
            checks.due("same(0) behind number " + last, rows.same(0), true);
        }
    }

    private static void full(Checks checks) {
        PictureRows rows = new PictureRows();
        for (int n = 0; n < 39; n++) {
            checks.goodNext(rows, "A");
        }
        checks.due("refused ones take no room", Checks.read(rows, "9S"), -2);
        checks.due("the 40th", Checks.read(rows, "9V9"), 2);
        checks.due("the 40th is the latest", rows.scale(), 1);
        checks.due("the 40th is kept", rows.same(39), true);
        checks.due("the 41st", Checks.read(rows, "N(3)"), 3);
        checks.due("the 41st is the latest", rows.category(), 5);
        checks.due("its signs", rows.at(2), 'N');
        for (int other = -1; other <= 42; other++) {
            checks.due("the 41st is not kept as " + other, rows.same(other), false);
        }
        checks.due("the 42nd", Checks.read(rows, "9V9"), 2);
        checks.due("the 42nd is the latest", rows.category(), 3);
        for (int other = -1; other <= 42; other++) {
            checks.due("the 42nd is as the 40th, not kept as " + other, rows.same(other), other == 39);
        }
        for (int n = 42; n < 100; n++) {
            checks.goodNext(rows, "N");
        }
        checks.due("the 101st", Checks.read(rows, "A"), 1);
        checks.due("the first ones are still kept", rows.same(0) && rows.same(38), true);
        checks.due("the 40th is still the same one", rows.same(39), false);
        checks.due("the 101st has no number", rows.same(40) || rows.same(100), false);
    }
}
