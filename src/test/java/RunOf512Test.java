import java.util.Random;

/** "An object is used for at most 512 calls after it has been made": whole runs of just so many. */
public final class RunOf512Test {
    private static final int CALLS = 512;
    // Stands behind a text that is to be read.
    private static final char READ = '\0';
    private static final String[] GOOD = {"9", "9V", "9V9", "S9(5)V99", "9PP", "9PPV", "PP9", "VPP9", "ZZ9.99CR", "**9-",
        "++,++9.99", "$$,$$9", "$9", "+$9", "XBX", "X(9999)", "AAA", "A9", "N", "NBN", "9B(9996)DB", "9(31)", "+(32)"};
    private static final String[] REFUSED = {"", "9S", "9!", "9(0)", "9(32)", "SV", "B", "X(9999)X", "9C", "(", "Z*", "++--"};
    private static final int[] NUMBERS = {Checks.MIN, -1, 0, 1, 2, 3, 4, 5, 6, 7, 18, 19, 38, 39, 40, 41, 79, 80, 81, 126,
        127, 9998, 9999, Checks.MAX};

    public static void main(String[] args) {
        Sentences document = new Sentences("what it is");
        onlySigns(document.test("at most 512 calls: 511 signs and a reading"));
        onlyReadings(document.test("at most 512 calls: 512 readings of nothing"));
        shortPictures(document.test("at most 512 calls: 256 pictures of one sign"));
        longPictures(document.test("at most 512 calls: texts of 80 characters"));
        onlyFollows(document.test("at most 512 calls: 512 of follows, refused ones too"));
        onlyCurrencies(document.test("at most 512 calls: 512 of currency"));
        lastCall(document.test("at most 512 calls: the 512th is as the first"));
        anyRuns(document.test("at most 512 calls: runs of all calls, beside a model of the document"));
        document.end();
    }

    private static void onlySigns(Checks checks) {
        PictureRows rows = new PictureRows();
        for (int call = 1; call < CALLS; call++) {
            rows.sign(call <= 80 ? 'X' : '!');
        }
        checks.due("read(), call 512", rows.read(), 80);
    }

    private static void onlyReadings(Checks checks) {
        PictureRows rows = new PictureRows();
        for (int call = 1; call <= CALLS; call++) {
            checks.due("read(), call " + call, rows.read(), -1);
        }
    }

    private static void shortPictures(Checks checks) {
        PictureRows rows = new PictureRows();
        for (int call = 1; call <= CALLS; call += 2) {
            rows.sign(call % 4 == 1 ? '9' : 'X');
            checks.due("read(), call " + (call + 1), rows.read(), 1);
        }
        PictureRows kept = new PictureRows();
        for (int call = 1; call <= CALLS - 42; call += 2) {
            kept.sign(call <= 80 ? '9' : 'X');
            kept.read();
        }
        for (int other = 0; other < 42; other++) {
            checks.due("same(" + other + ") behind 235 pictures", kept.same(other), false);
        }
    }

    private static void longPictures(Checks checks) {
        PictureRows rows = new PictureRows();
        // 80 runs that each are another sign than the one ahead, the most that a reading holds.
        for (int text = 0; text < 6; text++) {
            for (int place = 0; place < 80; place++) {
                rows.sign(place % 2 == 0 ? 'X' : 'A');
            }
            checks.due("read() of text " + text, rows.read(), 80);
        }
        for (int call = 487; call <= CALLS; call++) {
            int i = call - 487 + 79 - 25;
            checks.due("at(" + i + "), call " + call, rows.at(i), i % 2 == 0 ? 'X' : 'A');
        }
    }

    private static void onlyFollows(Checks checks) {
        PictureRows rows = new PictureRows();
        for (int call = 1; call <= CALLS; call++) {
            int a = call % 21 - 1;
            checks.due("follows(" + a + ", 12), call " + call, follows(rows, a, 12), dueOfNine(a));
        }
    }

    // 9 may come behind these; 2 stands for the exception.
    private static int dueOfNine(int a) {
        if (a < 0 || a > 18) {
            return 2;
        }
        return " 0 1 2 3 5 6 8 10 12 13 14 15 16 ".contains(" " + a + " ") ? 1 : 0;
    }

    private static int follows(PictureRows rows, int a, int b) {
        try {
            return rows.follows(a, b) ? 1 : 0;
        } catch (ArrayIndexOutOfBoundsException e) {
            return 2;
        }
    }

    private static void onlyCurrencies(Checks checks) {
        PictureRows rows = new PictureRows();
        Model model = new Model();
        for (int call = 1; call <= CALLS; call++) {
            int c = call * 37 % 131;
            checks.due("currency(" + c + "), call " + call, rows.currency(c), model.currency(c));
        }
    }

    // A text of four signs and its reading, then one call again and again.
    private static void lastCall(Checks checks) {
        for (int which = 0; which < 10; which++) {
            PictureRows rows = new PictureRows();
            Model model = new Model();
            for (char c : "$9B9".toCharArray()) {
                rows.sign(c);
                model.sign(c);
            }
            checks.due("read(), call 5", rows.read(), model.read());
            for (int call = 6; call <= CALLS; call++) {
                checks.due("call " + call + ": " + which + " of 0, 12", call(rows, which, 0, 12), due(model, which, 0, 12));
            }
        }
    }

    private static void anyRuns(Checks checks) {
        Random random = new Random(16112026);
        for (int run = 0; run < 300; run++) {
            anyRun(checks, run, random);
        }
    }

    // Each run has its own mixture: more texts, or more questions, more refused texts or fewer.
    private static void anyRun(Checks checks, int run, Random random) {
        PictureRows rows = new PictureRows();
        Model model = new Model();
        int texts = 1 + random.nextInt(9);
        int refused = random.nextInt(5);
        String text = "";
        for (int call = 1; call <= CALLS; call++) {
            int which = random.nextInt(10);
            int a = number(random);
            int b = random.nextInt(21) - 1;
            if (text.isEmpty() && random.nextInt(10) < texts) {
                text = text(random, refused) + READ;
            }
            if (!text.isEmpty()) {
                a = text.charAt(0);
                which = a == READ ? 1 : 0;
                text = text.substring(1);
            }
            checks.due("run " + run + ", call " + call + ": " + which + " of " + a + ", " + b,
                    call(rows, which, a, b), due(model, which, a, b));
        }
    }

    private static int number(Random random) {
        return random.nextInt(4) == 0 ? random.nextInt(130) - 2 : NUMBERS[random.nextInt(NUMBERS.length)];
    }

    private static String text(Random random, int refused) {
        return random.nextInt(5) < refused ? REFUSED[random.nextInt(REFUSED.length)] : GOOD[random.nextInt(GOOD.length)];
    }

    private static int call(PictureRows rows, int which, int a, int b) {
        switch (which) {
            case 0: rows.sign(a); return 0;
            case 1: return rows.read();
            case 2: return rows.category();
            case 3: return rows.digits(a);
            case 4: return rows.scale();
            case 5: return follows(rows, a, b);
            case 6: return rows.currency(a);
            case 7: return rows.at(a);
            case 8: return rows.same(a) ? 1 : 0;
            default: return rows.insertion(a);
        }
    }

    private static int due(Model model, int which, int a, int b) {
        switch (which) {
            case 0: model.sign(a); return 0;
            case 1: return model.read();
            case 2: return model.category();
            case 3: return model.digits(a);
            case 4: return model.scale();
            case 5: return Oracle.follows(a, b);
            case 6: return model.currency(a);
            case 7: return model.at(a);
            case 8: return model.same(a) ? 1 : 0;
            default: return model.insertion(a);
        }
    }
}
