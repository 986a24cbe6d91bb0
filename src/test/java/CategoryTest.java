/** Promise 4: the category of the latest picture. */
public final class CategoryTest {
    public static void main(String[] args) {
        Checks checks = new Checks("promise 4, category");
        all(checks, 0, "A", "AAA", "a(30)");
        all(checks, 1, "X", "XXX", "AX", "A9", "9A", "X9", "9X", "x(3)9(3)a");
        all(checks, 2, "AB", "BA", "A0", "A/", "XBX", "X/9", "9BX", "9B0/A");
        all(checks, 3, "9", "S9", "9V9", "S9V", "VP9", "P9", "9P", "S9PPV", "SP9");
        all(checks, 4, "9B", "09", "9/9", "9,9", "9.9", "Z", "*", "Z9", "+9", "9-", "9CR", "9DB", "$9", "$$", "++",
                "V++", "ZV9", "PZ", "$P9", "9P+");
        all(checks, 5, "N", "NNN", "n(7)");
        all(checks, 6, "NB", "BN", "N0N", "N/N");
        checks.due("without one", new PictureRows().category(), PictureRows.NONE);
        PictureRows rows = new PictureRows();
        Checks.read(rows, "9S");
        checks.due("after a wrong one", rows.category(), PictureRows.NONE);
        checks.end();
    }

    private static void all(Checks checks, int category, String... texts) {
        for (String text : texts) {
            checks.due("category() of " + text, Checks.good(text).category(), category);
        }
    }
}
