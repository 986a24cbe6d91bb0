/** Promise 2: characters come behind the text; there is room for 80. */
public final class SignTest {
    public static void main(String[] args) {
        Checks checks = new Checks("promise 2, sign");
        noSigns(checks);
        room(checks);
        checks.end();
    }

    private static void noSigns(Checks checks) {
        int[] characters = {0, -1, 127, 128, 255, 256 + '9', 65536 + '9', -65536 + '9', Integer.MIN_VALUE,
            Integer.MAX_VALUE, 1, ' ', 126, '9' + 128};
        for (int c : characters) {
            PictureRows rows = new PictureRows();
            rows.sign('9');
            rows.sign('9');
            rows.sign(c);
            rows.sign('9');
            checks.due("read() of 99 " + c + " 9", rows.read(), -3);
        }
        PictureRows rows = new PictureRows();
        rows.sign('B');
        rows.sign('9');
        checks.due("order: at(0)", rows.read() == 2 ? rows.at(0) : -2, 'B');
    }

    private static void room(Checks checks) {
        checks.picture("X".repeat(79), 79);
        checks.picture("X".repeat(80), 80);
        checks.picture("X".repeat(81), 80);
        checks.picture("X".repeat(80) + "!!!(", 80);
        checks.picture("X".repeat(200), 80);
        checks.wrongAt("X".repeat(79) + "!", 79);
        // What is lost may have ended a count, or a sign of two letters.
        checks.picture("X".repeat(77) + "(2)", 78);
        checks.wrongAt("X".repeat(78) + "(2)", 78);
        checks.wrongAt("9".repeat(20) + "B".repeat(59) + "CR", 79);
        checks.wrongAt("B".repeat(80) + "9", 80);
        PictureRows rows = new PictureRows();
        Checks.read(rows, "X".repeat(100));
        checks.due("the text is empty after it", Checks.read(rows, "99"), 2);
    }
}
