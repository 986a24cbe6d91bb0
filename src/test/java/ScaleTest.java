/** Promise 6: how far the last digit is behind the point. */
public final class ScaleTest {
    public static void main(String[] args) {
        Sentences promise = new Sentences("promise 6, scale");
        behind(promise.test("how many places its last digit is behind the point"));
        below(promise.test("below 0: so many P are between it and the point"));
        withoutOne(promise.test("0 without one"));
        otherCategories(promise.test("or if its category is not 3 or 4"));
        promise.end();
    }

    private static void behind(Checks checks) {
        scale(checks, "9", 0);
        scale(checks, "99V", 0);
        scale(checks, "99.", 0);
        scale(checks, "9V9", 1);
        scale(checks, "9(5)V99", 2);
        scale(checks, "V9(31)", 31);
        scale(checks, "ZZ9.9(4)CR", 4);
        scale(checks, "9.B9", 1);
        scale(checks, "9.9B", 1);
        scale(checks, "P9", 2);
        scale(checks, "PP99", 4);
        scale(checks, "VP(5)9", 6);
        scale(checks, "P(30)9", 31);
        scale(checks, "++.++", 2);
        scale(checks, "V++", 1);
        scale(checks, "++", 0);
        scale(checks, "$V$", 1);
    }

    private static void below(Checks checks) {
        scale(checks, "9PV", -1);
        scale(checks, "9P", -1);
        scale(checks, "99PP", -2);
        scale(checks, "99PPV", -2);
        scale(checks, "9P(29)", -29);
        scale(checks, "9P(30)", -30);
        scale(checks, "9PP(2)P", -4);
        scale(checks, "Z9P-", -1);
        scale(checks, "$$P", -1);
        scale(checks, "S9P", -1);
        scale(checks, "9V", 0);
    }

    private static void withoutOne(Checks checks) {
        PictureRows rows = new PictureRows();
        checks.due("scale()", rows.scale(), 0);
        Checks.write(rows, "9V9S");
        checks.due("scale() before the first is read", rows.scale(), 0);
        rows.read();
        checks.due("scale() after a refused one", rows.scale(), 0);
        checks.goodNext(rows, "9V9");
        checks.due("scale() with one", rows.scale(), 1);
        Checks.read(rows, "9P9");
        checks.due("scale() with one, after a refused one", rows.scale(), 1);
    }

    private static void otherCategories(Checks checks) {
        for (String text : new String[] {"A", "X9", "X/9", "N", "NB"}) {
            scale(checks, text, 0);
            PictureRows rows = checks.good("9P(3)");
            checks.due("scale() just beside", rows.scale(), -3);
            checks.goodNext(rows, text);
            checks.due("scale() of " + text + " behind 9P(3)", rows.scale(), 0);
            checks.goodNext(rows, "Z.99");
            checks.due("scale() of Z.99 behind " + text, rows.scale(), 2);
        }
    }

    private static void scale(Checks checks, String text, int want) {
        checks.due("scale() of " + text, checks.good(text).scale(), want);
    }
}
