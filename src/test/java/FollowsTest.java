/** Promise 7: the whole table, and what is outside it. */
public final class FollowsTest {
    // The document's words, a kind a row.
    private static final String[] BEHIND = {
        "0 1 2 4 6 7 8 9 10 11 12 13 15 17 18",
        "0 1 2 4 6 7 8 9 10 11 12 15 17",
        "0 1 4 7 9 11 12",
        "0 1 2 5 6 7 10 11 12 15 16 17",
        "",
        "0 1 2 4 6 7 8 9 12 15 16 17",
        "0 1 2 4 6 7 12 15 17",
        "0 1 4 7",
        "0 1 2 8 9 12 15 17",
        "0 1 9",
        "0 1 2 4 10 11 12 15 17",
        "0 1 4 11",
        "0 1 2 4 12 13 15 17",
        "0 12 13",
        "12 15 16 17",
        "0 1 4 7 9 11 12 16",
        "0 1 4 7 9 11 12 16",
        "4 15 17",
        "0 18"};

    public static void main(String[] args) {
        Checks checks = new Checks("promise 7, follows");
        PictureRows rows = new PictureRows();
        for (int a = 0; a < 19; a++) {
            for (int b = 0; b < 19; b++) {
                boolean want = (" " + BEHIND[a] + " ").contains(" " + b + " ");
                checks.due("follows(" + a + ", " + b + ")", rows.follows(a, b), want);
            }
        }
        int[] outside = {-1, 19, 20, 31, 32, Integer.MIN_VALUE, Integer.MAX_VALUE};
        for (int wrong : outside) {
            for (int other : new int[] {-1, 0, 4, 18, 19, Integer.MAX_VALUE}) {
                checks.due("follows(" + wrong + ", " + other + ") throws", throwsOn(rows, wrong, other), true);
                checks.due("follows(" + other + ", " + wrong + ") throws", throwsOn(rows, other, wrong), true);
            }
        }
        Checks.read(rows, "99");
        checks.due("the table is the same with a picture", rows.follows(12, 12), true);
        checks.end();
    }

    private static boolean throwsOn(PictureRows rows, int a, int b) {
        try {
            rows.follows(a, b);
            return false;
        } catch (ArrayIndexOutOfBoundsException e) {
            return true;
        }
    }
}
