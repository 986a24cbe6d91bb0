import java.util.Random;

/** No call throws but follows, for any arguments in any state; also far behind the 512th call. */
public final class AnyCallsTest {
    private static final String SIGNS = "99999VPZ*B0/,.+-SXANCRDB$()12#q";
    private static final int[] EDGES = {Integer.MIN_VALUE, -65536, -1, 0, 1, 18, 19, 39, 40, 41, 79, 80, 81, 126, 127,
        9999, 10000, Integer.MAX_VALUE};

    public static void main(String[] args) {
        Checks checks = new Checks("any calls");
        Random random = new Random(512);
        for (int object = 0; object < 300; object++) {
            PictureRows rows = new PictureRows();
            for (int n = 0; n < 3000; n++) {
                call(checks, rows, random.nextInt(40), argument(random), argument(random), random);
            }
        }
        checks.end();
    }

    private static int argument(Random random) {
        return random.nextBoolean() ? EDGES[random.nextInt(EDGES.length)] : random.nextInt(130) - 2;
    }

    private static void call(Checks checks, PictureRows rows, int which, int a, int b, Random random) {
        boolean due = which == 5 && (a < 0 || a > 18 || b < 0 || b > 18);
        boolean thrown = false;
        try {
            switch (which) {
                case 0: rows.sign(a); break;
                case 1: rows.category(); break;
                case 2: rows.digits(a); break;
                case 3: rows.scale(); break;
                case 4: rows.currency(a); break;
                case 5: rows.follows(a, b); break;
                case 6: rows.at(a); break;
                case 7: rows.same(a); break;
                case 8: rows.insertion(a); break;
                default:
                    if (which < 18) {
                        rows.read();
                    } else {
                        rows.sign(SIGNS.charAt(random.nextInt(SIGNS.length())));
                    }
            }
        } catch (ArrayIndexOutOfBoundsException e) {
            thrown = true;
        }
        checks.due("call " + which + " of " + a + ", " + b + " throws", thrown, due);
    }
}
