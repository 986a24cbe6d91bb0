/** Terms, of promise 3: at last a picture has to hold a value. */
public final class ValueTest {
    public static void main(String[] args) {
        Sentences terms = new Sentences("promise 3, terms");
        without(terms.test("a picture without A X 9 Z * N and kinds 8 to 11: told by the text's length"));
        with(terms.test("a picture with one of A X 9 Z * N and kinds 8 to 11 is good"));
        last(terms.test("At last: any other sign that can't be is told instead"));
        terms.end();
    }

    private static void without(Checks checks) {
        String[] texts = {"", "B", "0", "/", ",", ".", "+", "-", "$", "S", "V", "P", "CR", "DB", "SV", "+$", "-$", "PP",
            "P(5)", "VP", "SVP", "+P", "$P", "+$P(3)", "BCR", "B+", "B-", ",DB", ".CR", "VCR", "PCR", "P+", "BPPV",
            "BP+", "B(20)/,.", "$CR", "$B+", "+(1)", "$(1)", "B(0020)"};
        for (String text : texts) {
            checks.wrongAt(text, text.length());
        }
        checks.wrongAt("B".repeat(79), 79);
        checks.wrongAt("B".repeat(80), 80);
        checks.wrongAt("B".repeat(81), 80);
    }

    private static void with(Checks checks) {
        String[] texts = {"A", "X", "9", "Z", "*", "N", "B9", ",Z", "S9", "V9", "P9", "9CR", "+9", "$9",
            "++", "--", "$$", "+(2)", "$(2)", "B++", ".++", "V--", "P++", ".$$", "V$$", "P$$", "+.+", "$V$"};
        for (String text : texts) {
            checks.good(text);
        }
    }

    private static void last(Checks checks) {
        checks.wrongAt("B!", 1);
        checks.wrongAt("SS", 1);
        checks.wrongAt("V.", 1);
        checks.wrongAt("CRB", 2);
        checks.wrongAt("P(32)", 0);
        checks.wrongAt("B(9999)B", 7);
        checks.wrongAt("+-", 1);
    }
}
