/** Promise 4: the category of the latest picture. */
public final class CategoryTest {
    public static void main(String[] args) {
        Sentences promise = new Sentences("promise 4, category");
        all(promise.test("0 A alone"), 0, "A", "AAA", "a(30)", "A(9999)");
        all(promise.test("1 A, X, 9, not 9 alone, not A alone"), 1, "X", "XXX", "AX", "A9", "9A", "X9", "9X",
                "x(3)9(3)a", "A(9998)X", "9(31)A");
        all(promise.test("2 as 0 or 1, but with kind 0"), 2, "AB", "BA", "A0", "A/", "XBX", "X/9", "9BX", "9B0/A", "X0");
        all(promise.test("3 9, S, V, P alone"), 3, "9", "S9", "9V9", "S9V", "VP9", "P9", "9P", "S9PPV", "SP9", "V9");
        all(promise.test("4 other ones with digits"), 4, "9B", "09", "9/9", "9,9", "9.9", "9.", "Z", "*", "Z9", "+9",
                "9-", "9CR", "9DB", "$9", "$$", "++", "V++", "ZV9", "PZ", "$P9", "9P+", "--", "P$$");
        all(promise.test("5 N alone"), 5, "N", "NNN", "n(7)", "N(9999)");
        all(promise.test("6 N and kind 0"), 6, "NB", "BN", "N0N", "N/N", "0N");
        withoutOne(promise.test("NONE without one"));
        promise.end();
    }

    private static void all(Checks checks, int category, String... texts) {
        for (String text : texts) {
            checks.due("category() of " + text, checks.good(text).category(), category);
        }
    }

    private static void withoutOne(Checks checks) {
        PictureRows rows = new PictureRows();
        checks.due("without one", rows.category(), Checks.NONE);
        Checks.write(rows, "9S");
        checks.due("before the first is read", rows.category(), Checks.NONE);
        rows.read();
        checks.due("after a refused one", rows.category(), Checks.NONE);
        rows.read();
        checks.due("after an empty one", rows.category(), Checks.NONE);
        checks.goodNext(rows, "A");
        checks.due("with one", rows.category(), 0);
        Checks.read(rows, "9S");
        checks.due("with one, after a refused one", rows.category(), 0);
        checks.goodNext(rows, "N");
        checks.due("with two, of the latest", rows.category(), 5);
    }
}
