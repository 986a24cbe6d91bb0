import java.util.ArrayList;
import java.util.List;
import java.util.Random;

/** All answers against the slow reading of the document: all short texts, and many longer ones. */
public final class OracleTest {
    private static final String[] PIECES = {"A", "X", "9", "Z", "*", "B", "0", "/", ",", ".", "+", "-", "S", "V", "P",
        "N", "CR", "DB", "$", "(2)"};
    private static final String[] MORE = {"9", "9", "9(3)", "9(14)", "Z", "Z(9)", "z", "*", "V", "v", "P", "P(5)", "p",
        "+", "+", "+(16)", "-", "$", "$(3)", ",", ".", "B", "b(2)", "0", "/", "CR", "Db", "S", "X", "A(2)", "N",
        "X(4000)", "B(3000)", "(31)", "(0)", "#", "!"};
    private static final Checks CHECKS = new Checks("oracle");

    public static void main(String[] args) {
        everyShort("", 4);
        longer();
        pairs();
        CHECKS.end();
    }

    private static void everyShort(String text, int more) {
        compare(text, '$');
        for (int i = 0; more > 0 && i < PIECES.length; i++) {
            everyShort(text + PIECES[i], more - 1);
        }
    }

    private static void longer() {
        Random random = new Random(20261115);
        for (int n = 0; n < 20000; n++) {
            compare(grown(random), n % 7 == 0 ? '#' : '$');
        }
    }

    // A piece that spoils the text is mostly taken back, so that good pictures grow long.
    private static String grown(Random random) {
        String text = "";
        int steps = random.nextInt(14);
        for (int step = 0; step < steps; step++) {
            String longerText = text + MORE[random.nextInt(MORE.length)];
            int answer = new Oracle(longerText, '$').answer;
            boolean grows = answer > 0 || answer == -1 - longerText.length();
            if (longerText.length() <= 80 && (grows || random.nextInt(12) == 0)) {
                text = longerText;
            }
        }
        return text;
    }

    private static void compare(String text, char currency) {
        PictureRows rows = new PictureRows();
        rows.currency(currency);
        Oracle oracle = new Oracle(text, currency);
        CHECKS.due("read() of " + text, Checks.read(rows, text), oracle.answer);
        if (oracle.answer < 0) {
            CHECKS.due("category() of " + text, rows.category(), PictureRows.NONE);
            return;
        }
        CHECKS.due("category() of " + text, rows.category(), oracle.category());
        CHECKS.due("digits(0) of " + text, rows.digits(0), oracle.digits(0));
        CHECKS.due("digits(1) of " + text, rows.digits(1), oracle.digits(1));
        CHECKS.due("scale() of " + text, rows.scale(), oracle.scale());
        for (int kind = 0; kind < 7; kind++) {
            CHECKS.due("insertion(" + kind + ") of " + text, rows.insertion(kind), oracle.insertion(kind));
        }
        String characters = oracle.characters();
        for (int i = 0; i < Math.min(characters.length(), 100); i++) {
            CHECKS.due("at(" + i + ") of " + text, rows.at(i), characters.charAt(i));
        }
        CHECKS.due("the last of " + text, rows.at(characters.length() - 1), characters.charAt(characters.length() - 1));
        CHECKS.due("behind the last of " + text, rows.at(characters.length()), PictureRows.NONE);
    }

    private static void pairs() {
        List<String> texts = new ArrayList<>();
        goodOnes("", 5, texts);
        Random random = new Random(15112026);
        for (int round = 0; round < 1000; round++) {
            PictureRows rows = new PictureRows();
            List<String> effects = new ArrayList<>();
            for (int n = 0; n < 20; n++) {
                String text = texts.get(random.nextInt(texts.size()));
                char currency = random.nextBoolean() ? '$' : '#';
                rows.currency(currency);
                Checks.read(rows, text.replace('$', currency));
                effects.add(new Oracle(text, '$').effect());
                for (int other = 0; other <= n; other++) {
                    boolean want = effects.get(other).equals(effects.get(n));
                    CHECKS.due("same(" + other + ") of " + text, rows.same(other), want);
                }
            }
        }
    }

    // Few signs, so that many pairs are alike.
    private static void goodOnes(String text, int more, List<String> texts) {
        if (new Oracle(text, '$').answer > 0) {
            texts.add(text);
        }
        for (String piece : new String[] {"9", "9(2)", "V", "P", "B", "$", "+"}) {
            if (more > 0) {
                goodOnes(text + piece, more - 1, texts);
            }
        }
    }
}
