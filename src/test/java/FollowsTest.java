/** Promise 7: the whole table, and what is outside it. */
public final class FollowsTest {
    // The document's words, a kind a row.
    private static final String[] BEHIND = {
        "0 1 2 4 6 7 8 9 10 11 12 13 15 17 18",
        "0 1 2 4 6 7 8 9 10 11 12 15 17",
        "0 1 4 7 9 11 12",
        "0 1 2 5 6 7 10 11 12 15 16 17",
        "",
        "0 1 2 4 6 7 8 9 12 15 16 17",
        "0 1 2 4 6 7 12 15 17",
        "0 1 4 7",
        "0 1 2 8 9 12 15 17",
        "0 1 9",
        "0 1 2 4 10 11 12 15 17",
        "0 1 4 11",
        "0 1 2 4 12 13 15 17",
        "0 12 13",
        "12 15 16 17",
        "0 1 4 7 9 11 12 16",
        "0 1 4 7 9 11 12 16",
        "4 15 17",
        "0 18"};

    // 32 and 64 more or less are kinds again in the last five or six bits.
    private static final int[] TOO_SMALL = {-1, -2, -14, -32, -64, -256, -65536, Checks.MIN, Checks.MIN + 1};
    private static final int[] TOO_LARGE = {19, 20, 31, 32, 33, 44, 64, 76, 256, 65536, Checks.MAX - 1, Checks.MAX};

    public static void main(String[] args) {
        Sentences promise = new Sentences("promise 7, follows");
        table(promise.test("Whether kind b may come behind kind a"));
        outside(promise.test("ArrayIndexOutOfBoundsException when there is no such kind: a is too small"), TOO_SMALL, true);
        outside(promise.test("ArrayIndexOutOfBoundsException when there is no such kind: a is too large"), TOO_LARGE, true);
        outside(promise.test("ArrayIndexOutOfBoundsException when there is no such kind: b is too small"), TOO_SMALL, false);
        outside(promise.test("ArrayIndexOutOfBoundsException when there is no such kind: b is too large"), TOO_LARGE, false);
        both(promise.test("ArrayIndexOutOfBoundsException when there is no such kind: both"));
        nothingElse(promise.test("ArrayIndexOutOfBoundsException: nothing else changes"));
        promise.end();
    }

    private static void table(Checks checks) {
        PictureRows rows = new PictureRows();
        for (int a = 0; a < 19; a++) {
            for (int b = 0; b < 19; b++) {
                boolean want = (" " + BEHIND[a] + " ").contains(" " + b + " ");
                checks.due("follows(" + a + ", " + b + ")", rows.follows(a, b), want);
            }
        }
    }

    private static void outside(Checks checks, int[] wrongKinds, boolean isFirst) {
        PictureRows rows = new PictureRows();
        for (int wrong : wrongKinds) {
            for (int kind = 0; kind < 19; kind++) {
                String call = isFirst ? "follows(" + wrong + ", " + kind + ")" : "follows(" + kind + ", " + wrong + ")";
                boolean thrown = isFirst ? throwsOn(rows, wrong, kind) : throwsOn(rows, kind, wrong);
                checks.due(call + " throws", thrown, true);
            }
        }
        for (int kind : new int[] {0, 18}) {
            checks.due("follows(" + kind + ", 18) throws", throwsOn(rows, kind, 18), false);
            checks.due("follows(18, " + kind + ") throws", throwsOn(rows, 18, kind), false);
        }
    }

    private static void both(Checks checks) {
        PictureRows rows = new PictureRows();
        for (int a : new int[] {Checks.MIN, -1, 19, Checks.MAX}) {
            for (int b : new int[] {Checks.MIN, -1, 19, Checks.MAX}) {
                checks.due("follows(" + a + ", " + b + ") throws", throwsOn(rows, a, b), true);
            }
        }
    }

    private static void nothingElse(Checks checks) {
        PictureRows rows = checks.good("9V9");
        Checks.write(rows, "9");
        checks.due("follows(19, 0) throws", throwsOn(rows, 19, 0), true);
        checks.due("follows(12, 12) behind it", rows.follows(12, 12), true);
        checks.due("scale() behind it", rows.scale(), 1);
        checks.due("read() of the text behind it", rows.read(), 1);
    }

    // The very class, none below it; and thrown by the program, not by the machine, whose message begins with Index.
    private static boolean throwsOn(PictureRows rows, int a, int b) {
        try {
            rows.follows(a, b);
            return false;
        } catch (ArrayIndexOutOfBoundsException e) {
            return e.getClass() == ArrayIndexOutOfBoundsException.class && !String.valueOf(e.getMessage()).startsWith("Index");
        }
    }
}
