/** What the tests share: pictures by their text, and a count of the answers that are not as due. */
final class Checks {
    static final int MIN = Integer.MIN_VALUE;
    static final int MAX = Integer.MAX_VALUE;
    static final int NONE = PictureRows.NONE;

    private final String title;
    private int done = 0;
    private int wrong = 0;

    Checks(String title) {
        this.title = title;
    }

    void due(String call, long got, long want) {
        done++;
        if (got != want) {
            wrong++;
            System.out.println(title + ": " + call + " answered " + got + ", due is " + want);
        }
    }

    void due(String call, boolean got, boolean want) {
        due(call, got ? 1 : 0, want ? 1 : 0);
    }

    /** Reads the text on a new object, where it is due to answer so; the object, for more calls. */
    PictureRows picture(String text, int want) {
        PictureRows rows = new PictureRows();
        due("read() of " + text, read(rows, text), want);
        return rows;
    }

    /** Reads a text that has its first wrong sign at a place. */
    void wrongAt(String text, int place) {
        picture(text, -1 - place);
    }

    /** Reads texts that have their first wrong sign at a place. */
    void allWrongAt(int place, String... texts) {
        for (String text : texts) {
            wrongAt(text, place);
        }
    }

    /** Reads a text that is good on a new object; the object, for more calls. */
    PictureRows good(String text) {
        PictureRows rows = new PictureRows();
        goodNext(rows, text);
        return rows;
    }

    void goodNext(PictureRows rows, String text) {
        int answer = read(rows, text);
        due("good (answer " + answer + "): " + text, answer > 0, true);
    }

    static void write(PictureRows rows, String text) {
        for (int i = 0; i < text.length(); i++) {
            rows.sign(text.charAt(i));
        }
    }

    static int read(PictureRows rows, String text) {
        write(rows, text);
        return rows.read();
    }

    /** Tells the count; whether there were answers, and all as due. */
    boolean told() {
        System.out.println(title + ": " + done + " answers, " + wrong + " not as due");
        return wrong == 0 && done > 0;
    }

    void end() {
        if (!told()) {
            System.exit(1);
        }
    }
}
