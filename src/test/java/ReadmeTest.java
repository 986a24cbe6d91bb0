/** What README.md tells of the calls is what they answer: whoever changes the one changes the other. */
public final class ReadmeTest {
    public static void main(String[] args) {
        Sentences readme = new Sentences("README.md");
        example(readme.test("the example's answers"));
        limits(readme.test("what the table of calls tells of wrong arguments"));
        readme.end();
    }

    private static void example(Checks checks) {
        PictureRows rows = new PictureRows();
        checks.due("read() of S9(5)V99", Checks.read(rows, "S9(5)V99"), 7);
        checks.due("category()", rows.category(), 3);
        checks.due("digits(0)", rows.digits(0), 5);
        checks.due("digits(1)", rows.digits(1), 2);
        checks.due("scale()", rows.scale(), 2);
        checks.due("at(0)", rows.at(0), 'S');
        checks.due("at(6)", rows.at(6), 'V');
        checks.due("insertion(4)", rows.insertion(4), 0);
        checks.due("same(0)", rows.same(0), true);
        checks.due("read() of 9S9", Checks.read(rows, "9S9"), -2);
        checks.due("category() behind it", rows.category(), 3);
        checks.due("currency('#')", rows.currency('#'), '$');
        checks.due("read() of ##9.99CR", Checks.read(rows, "##9.99CR"), 8);
        checks.due("insertion(4) of it", rows.insertion(4), 1);
        checks.due("same(0) of it", rows.same(0), false);
        checks.due("follows(12, 4)", rows.follows(12, 4), true);
        checks.due("read() of 9S9!", Checks.read(rows, "9S9!"), -4);
    }

    private static void limits(Checks checks) {
        PictureRows rows = checks.good("9");
        checks.due("digits(2)", rows.digits(2), Checks.NONE);
        checks.due("at(1)", rows.at(1), Checks.NONE);
        checks.due("same(1)", rows.same(1), false);
        checks.due("insertion(7)", rows.insertion(7), Checks.NONE);
        checks.due("currency('A')", rows.currency('A'), Checks.NONE);
    }
}
