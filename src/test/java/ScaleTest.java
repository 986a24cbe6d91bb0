/** Promise 6: how far the last digit is behind the point. */
public final class ScaleTest {
    public static void main(String[] args) {
        Checks checks = new Checks("promise 6, scale");
        scale(checks, "9", 0);
        scale(checks, "9(5)V99", 2);
        scale(checks, "V9(31)", 31);
        scale(checks, "99V", 0);
        scale(checks, "99.", 0);
        scale(checks, "ZZ9.9(4)CR", 4);
        scale(checks, "9.B9", 1);
        scale(checks, "PP99", 4);
        scale(checks, "VP(5)9", 6);
        scale(checks, "99PP", -2);
        scale(checks, "99PPV", -2);
        scale(checks, "9P(30)", -30);
        scale(checks, "Z9P-", -1);
        scale(checks, "$$P", -1);
        scale(checks, "++.++", 2);
        scale(checks, "V++", 1);
        scale(checks, "A", 0);
        scale(checks, "X9", 0);
        scale(checks, "X/9", 0);
        scale(checks, "NB", 0);
        checks.due("scale() without one", new PictureRows().scale(), 0);
        checks.end();
    }

    private static void scale(Checks checks, String text, int want) {
        checks.due("scale() of " + text, Checks.good(text).scale(), want);
    }
}
