/** Promise 2: characters come behind the text; there is room for 80. */
public final class SignTest {
    // Some of these are a 9 in their last seven, eight or sixteen bits.
    private static final int[] OUTSIDE = {0, -1, 127, 128, 255, 256, '9' + 128, '9' + 256, '9' + 65536, '9' - 128,
        '9' - 256, '9' - 65536, '9' + (1 << 31), Checks.MIN, Checks.MAX};

    public static void main(String[] args) {
        Sentences promise = new Sentences("promise 2, sign");
        order(promise.test("A character comes behind the text"));
        outside(promise.test("others than 1 .. 126 are no signs"));
        inside(promise.test("others than 1 .. 126 are no signs: 1 and 126 are none of the others"));
        lost(promise.test("the 81st and more are lost"));
        lostEnds(promise.test("the 81st and more are lost: what was begun ahead of them stays begun"));
        emptied(promise.test("the 81st and more are lost, of each text anew"));
        promise.end();
    }

    private static void order(Checks checks) {
        PictureRows rows = checks.picture("B09/", 4);
        for (int i = 0; i < 4; i++) {
            checks.due("at(" + i + ")", rows.at(i), "B09/".charAt(i));
        }
    }

    private static void outside(Checks checks) {
        for (int c : OUTSIDE) {
            around(checks, "", c, "", 0);
            around(checks, "", c, "9", 0);
            around(checks, "99", c, "9", 2);
            around(checks, "9(", c, ")", 1);
            around(checks, "9(1", c, ")", 1);
            around(checks, "9C", c, "", 1);
            around(checks, "X".repeat(79), c, "", 79);
        }
        // They take a place in the text's room, too.
        PictureRows rows = new PictureRows();
        for (int n = 0; n < 80; n++) {
            rows.sign(n < 79 ? 'X' : 127);
        }
        rows.sign('X');
        checks.due("read() of 79 X, 127, X", rows.read(), -80);
    }

    private static void around(Checks checks, String ahead, int c, String behind, int place) {
        PictureRows rows = new PictureRows();
        Checks.write(rows, ahead);
        rows.sign(c);
        Checks.write(rows, behind);
        checks.due("read() of " + ahead + " " + c + " " + behind, rows.read(), -1 - place);
        checks.due("category() after it", rows.category(), Checks.NONE);
    }

    private static void inside(Checks checks) {
        PictureRows rows = new PictureRows();
        rows.currency(126);
        checks.due("read() of 126 as the currency sign, 9", Checks.read(rows, "~9"), 2);
        checks.due("at(0)", rows.at(0), 126);
        rows.sign(127);
        rows.sign('9');
        checks.due("read() of 127, 9", rows.read(), -1);
        // 1 may come; that it is no sign is only told by the list of signs.
        rows.sign('9');
        rows.sign(1);
        checks.due("read() of 9, 1", rows.read(), -2);
    }

    private static void lost(Checks checks) {
        checks.picture("X".repeat(79), 79);
        PictureRows full = checks.picture("X".repeat(79) + "9", 80);
        checks.due("at(79) of 80", full.at(79), '9');
        checks.due("at(80) of 80", full.at(80), Checks.NONE);
        PictureRows over = checks.picture("X".repeat(80) + "9", 80);
        checks.due("at(79) of 81", over.at(79), 'X');
        checks.due("at(80) of 81", over.at(80), Checks.NONE);
        checks.picture("X".repeat(82), 80);
        checks.picture("X".repeat(511), 80);
        checks.wrongAt("X".repeat(79) + "!", 79);
        checks.picture("X".repeat(80) + "!", 80);
        checks.picture("X".repeat(80) + "!!!(", 80);
        // A value that comes too late is none.
        checks.picture("B".repeat(79) + "9", 80);
        checks.wrongAt("B".repeat(80) + "9", 80);
    }

    private static void lostEnds(Checks checks) {
        checks.picture("X".repeat(77) + "(2)", 78);
        checks.wrongAt("X".repeat(78) + "(2)", 78);
        checks.wrongAt("X".repeat(79) + "(2)", 79);
        checks.picture("X".repeat(80) + "(2)", 80);
        checks.picture("9" + "B".repeat(77) + "CR", 80);
        checks.wrongAt("9" + "B".repeat(78) + "CR", 79);
        checks.picture("9" + "B".repeat(79) + "CR", 80);
        checks.wrongAt("9" + "B".repeat(78) + "DB", 79);
    }

    private static void emptied(Checks checks) {
        PictureRows rows = new PictureRows();
        for (int n = 0; n < 3; n++) {
            checks.due("read() of 81 X", Checks.read(rows, "X".repeat(81)), 80);
            checks.due("read() of 79 X, !", Checks.read(rows, "X".repeat(79) + "!"), -80);
            checks.due("read() of 79 X", Checks.read(rows, "X".repeat(79)), 79);
            checks.due("read() of nothing", rows.read(), -1);
        }
    }
}
