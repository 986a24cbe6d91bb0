/** What the tests share: pictures by their text, and a count of the answers that are not as due. */
final class Checks {
    private final String title;
    private int done = 0;
    private int wrong = 0;

    Checks(String title) {
        this.title = title;
    }

    void due(String call, long got, long want) {
        done++;
        if (got != want) {
            wrong++;
            System.out.println(title + ": " + call + " answered " + got + ", due is " + want);
        }
    }

    void due(String call, boolean got, boolean want) {
        due(call, got ? 1 : 0, want ? 1 : 0);
    }

    /** Reads the text on a new object, where it is due to answer so; the object, for more calls. */
    PictureRows picture(String text, int want) {
        PictureRows rows = new PictureRows();
        due("read() of " + text, read(rows, text), want);
        return rows;
    }

    /** Reads a text that has its first wrong sign at a place. */
    void wrongAt(String text, int place) {
        picture(text, -1 - place);
    }

    static void write(PictureRows rows, String text) {
        for (int i = 0; i < text.length(); i++) {
            rows.sign(text.charAt(i));
        }
    }

    static int read(PictureRows rows, String text) {
        write(rows, text);
        return rows.read();
    }

    static PictureRows good(String text) {
        PictureRows rows = new PictureRows();
        int answer = read(rows, text);
        if (answer < 0) {
            System.out.println("the picture " + text + " was refused with " + answer);
        }
        return rows;
    }

    void end() {
        System.out.println(title + ": " + done + " answers, " + wrong + " not as due");
        if (wrong != 0 || done == 0) {
            System.exit(1);
        }
    }
}
