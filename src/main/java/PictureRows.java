import java.util.Arrays;

/** Picture texts: read, measured, kept and compared, as ../shared/DOC.md promises. */
public final class PictureRows {
    public static final int NONE = -1;

    private static final int TEXT_ROOM = 80;
    private static final int KEPT_ROOM = 40;
    private static final int MOST_DIGITS = 31;
    private static final int MOST_SIGNS = 9999;
    private static final int COUNT_ROOM = 4;

    // The kinds. 6, 8 and 10 are followed by their like behind the point, 7, 9 and 11.
    private static final int INSERTED = 0;
    private static final int COMMA = 1;
    private static final int DOT = 2;
    private static final int FIRST_PLUS_MINUS = 3;
    private static final int OTHER_PLUS_MINUS = 4;
    private static final int ONE_CURRENCY = 5;
    private static final int SUPPRESSED = 6;
    private static final int MANY_PLUS_MINUS = 8;
    private static final int MANY_CURRENCY = 10;
    private static final int NINE = 12;
    private static final int LETTER = 13;
    private static final int S_SIGN = 14;
    private static final int V_SIGN = 15;
    private static final int LEADING_P = 16;
    private static final int TRAILING_P = 17;
    private static final int NATIONAL = 18;
    private static final int KINDS = 19;

    // Row a, bit b (bit 0 is the rightmost): whether kind b may come behind kind a.
    private static final int[] MAY_COME_BEHIND = {
        0b1101_01111_11110_10111, // 0
        0b0101_00111_11110_10111, // 1
        0b0000_00110_10100_10011, // 2
        0b0111_00111_00111_00111, // 3
        0b0000_00000_00000_00000, // 4
        0b0111_00100_11110_10111, // 5
        0b0101_00100_00110_10111, // 6
        0b0000_00000_00100_10011, // 7
        0b0101_00100_11000_00111, // 8
        0b0000_00000_10000_00011, // 9
        0b0101_00111_00000_10111, // 10
        0b0000_00010_00000_10011, // 11
        0b0101_01100_00000_10111, // 12
        0b0000_01100_00000_00001, // 13
        0b0111_00100_00000_00000, // 14
        0b0010_00110_10100_10011, // 15
        0b0010_00110_10100_10011, // 16
        0b0101_00000_00000_10000, // 17
        0b1000_00000_00000_00001, // 18
    };

    // Sets of kinds, a bit a kind.
    private static final int ALL_KINDS = (1 << KINDS) - 1;
    private static final int FLOATING = 0b11 << MANY_PLUS_MINUS | 0b11 << MANY_CURRENCY;
    private static final int ANY_P = 1 << LEADING_P | 1 << TRAILING_P;
    private static final int OTHER_DIGITS = 0b11 << SUPPRESSED | 1 << NINE | ANY_P;
    private static final int VALUES = 0b11 << SUPPRESSED | FLOATING | 1 << NINE | 1 << LETTER | 1 << NATIONAL;
    private static final int POINTS = 1 << DOT | 1 << V_SIGN | 1 << LEADING_P;
    private static final int NUMERIC = 1 << NINE | 1 << S_SIGN | 1 << V_SIGN | ANY_P;
    private static final int BEFORE_LEADING_P = 1 << FIRST_PLUS_MINUS | 1 << ONE_CURRENCY | 1 << S_SIGN
            | 1 << V_SIGN | 1 << LEADING_P;

    // Every currency sign is held as this one, so that two pictures compare alike whatever theirs were.
    private static final int CURRENCY = '$';
    private static final String SINGLE_SIGNS = "AX9Z*B0/,.+-SVPN";
    private static final String NO_CURRENCY = "ABCDENPRSVXZ0123456789*+-,./;()='\"";

    private final Text text = new Text();
    private final Runs runs = new Runs();
    private final Picture[] kept = new Picture[KEPT_ROOM];
    private int keptCount = 0;
    private Picture latest = null;
    private int currencySign = CURRENCY;

    public PictureRows() {
    }

    public void sign(int c) {
        text.append(c);
    }

    public int read() {
        int wrong = firstWrongPlace();
        text.clear();
        if (wrong != NONE) {
            return -1 - wrong;
        }
        Picture picture = new Picture(runs, currencySign);
        keep(picture);
        return picture.signCount;
    }

    public int category() {
        return latest == null ? NONE : latest.category;
    }

    public int digits(int side) {
        if (latest == null || !latest.isNumber()) {
            return NONE;
        }
        if (side == 0) {
            return latest.digitsAhead;
        }
        return side == 1 ? latest.digitsBehind : NONE;
    }

    public int scale() {
        return latest == null || !latest.isNumber() ? 0 : latest.scale;
    }

    public boolean follows(int a, int b) throws ArrayIndexOutOfBoundsException {
        if (!isKind(a) || !isKind(b)) {
            throw new ArrayIndexOutOfBoundsException("no such kind");
        }
        return holds(MAY_COME_BEHIND[a], b);
    }

    public int currency(int c) {
        if (!canBeCurrency(c)) {
            return NONE;
        }
        int before = currencySign;
        currencySign = c;
        return before;
    }

    public int at(int i) {
        return latest == null ? NONE : latest.characterAt(i);
    }

    public boolean same(int other) {
        if (latest == null || other < 0 || other >= keptCount || other >= KEPT_ROOM) {
            return false;
        }
        Picture picture = kept[other];
        return picture != null && latest.effect.equalTo(picture.effect);
    }

    public int insertion(int kind) {
        return latest == null ? NONE : latest.insertionsOf(kind);
    }

    private int firstWrongPlace() {
        int wrong = runs.take(text, currencySign);
        if (wrong != NONE) {
            return wrong;
        }
        runs.findKinds();
        runs.findDigits();
        wrong = runs.firstMisplaced();
        if (wrong != NONE) {
            return wrong;
        }
        return (runs.kindsPresent() & VALUES) == 0 ? text.length : NONE;
    }

    private void keep(Picture picture) {
        latest = picture;
        if (keptCount >= 0 && keptCount < KEPT_ROOM) {
            kept[keptCount] = picture;
            keptCount++;
        }
    }

    private static boolean isKind(int kind) {
        return kind >= 0 && kind < KINDS;
    }

    private static boolean holds(int kindSet, int kind) {
        return (kindSet >> kind & 1) != 0;
    }

    private static int greatOf(int c) {
        return c >= 'a' && c <= 'z' ? c - 'a' + 'A' : c;
    }

    private static boolean canBeCurrency(int c) {
        return c >= 33 && c <= 126 && NO_CURRENCY.indexOf((char) greatOf(c)) < 0;
    }

    // CR and DB are held by their first letter; no other sign begins with it.
    private static int widthOf(int sign) {
        return sign == 'C' || sign == 'D' ? 2 : 1;
    }

    private static int signsCounted(int sign, int times) {
        return sign == 'S' || sign == 'V' || sign == 'P' ? 0 : times * widthOf(sign);
    }

    /** The characters that have come, and the signs that are spelled in them. */
    private static final class Text {
        private final int[] characters = new int[TEXT_ROOM];
        private int length = 0;

        void append(int c) {
            if (length < 0 || length >= TEXT_ROOM) {
                return;
            }
            characters[length] = c >= 1 && c <= 126 ? c : 0;
            length++;
        }

        void clear() {
            length = 0;
        }

        int characterAt(int place) {
            return place < 0 || place >= length || place >= TEXT_ROOM ? 0 : characters[place];
        }

        int signAt(int place, int currencySign) {
            int c = characterAt(place);
            if (c == currencySign) {
                return CURRENCY;
            }
            int great = greatOf(c);
            int next = greatOf(characterAt(place + 1));
            if (great == 'C' && next == 'R' || great == 'D' && next == 'B') {
                return great;
            }
            return SINGLE_SIGNS.indexOf((char) great) < 0 ? NONE : great;
        }

        /** The place of the ) that ends the digits behind the ( at open; NONE without one. */
        int closeOf(int open) {
            for (int place = open + 1; place <= open + 1 + COUNT_ROOM; place++) {
                int c = characterAt(place);
                if (c == ')') {
                    return place;
                }
                if (c < '0' || c > '9') {
                    return NONE;
                }
            }
            return NONE;
        }

        int numberBetween(int open, int close) {
            int number = 0;
            for (int place = open + 1; place < close; place++) {
                number = number * 10 + characterAt(place) - '0';
            }
            return number;
        }
    }

    /** The signs of the text being read, with how often each stands; made once and used for every reading. */
    private static final class Runs {
        private final int[] signs = new int[TEXT_ROOM];
        private final int[] times = new int[TEXT_ROOM];
        private final int[] places = new int[TEXT_ROOM];
        private final int[] kinds = new int[TEXT_ROOM];
        private final int[] digitCounts = new int[TEXT_ROOM];
        private int size = 0;

        /** Takes the signs out of the text; the place of the first that is none, else NONE. */
        int take(Text text, int currencySign) {
            size = 0;
            int place = 0;
            for (int run = 0; run < TEXT_ROOM && place < text.length; run++) {
                int sign = text.signAt(place, currencySign);
                if (sign == NONE) {
                    return place;
                }
                int behind = place + widthOf(sign);
                int count = 1;
                if (text.characterAt(behind) == '(') {
                    // Without a ) there is nothing between, which is 0.
                    int close = text.closeOf(behind);
                    count = text.numberBetween(behind, close);
                    if (count < 1) {
                        return behind;
                    }
                    behind = close + 1;
                }
                add(sign, count, place);
                place = behind;
            }
            return NONE;
        }

        private void add(int sign, int count, int place) {
            if (size < 0 || size >= TEXT_ROOM) {
                return;
            }
            signs[size] = sign;
            times[size] = count;
            places[size] = place;
            size++;
        }

        void findKinds() {
            boolean plusIsOne = countOf('+') == 1;
            boolean minusIsOne = countOf('-') == 1;
            boolean currencyIsOne = countOf(CURRENCY) == 1;
            int kindsAhead = 0;
            for (int run = 0; run < size && run < TEXT_ROOM; run++) {
                int sign = signs[run];
                boolean isOne = sign == '+' ? plusIsOne : sign == '-' ? minusIsOne : currencyIsOne;
                kinds[run] = kindOf(sign, isOne, kindsAhead);
                kindsAhead |= 1 << kinds[run];
            }
        }

        private int countOf(int sign) {
            int count = 0;
            for (int run = 0; run < size && run < TEXT_ROOM; run++) {
                if (signs[run] == sign) {
                    count += times[run];
                }
            }
            return count;
        }

        private static int kindOf(int sign, boolean isOne, int kindsAhead) {
            // The kinds behind the point have the number next to those ahead of it.
            int side = (kindsAhead & POINTS) == 0 ? 0 : 1;
            switch (sign) {
                case ',': return COMMA;
                case '.': return DOT;
                case '+':
                case '-':
                    if (!isOne) {
                        return MANY_PLUS_MINUS + side;
                    }
                    return kindsAhead == 0 ? FIRST_PLUS_MINUS : OTHER_PLUS_MINUS;
                case 'C':
                case 'D': return OTHER_PLUS_MINUS;
                case CURRENCY: return isOne ? ONE_CURRENCY : MANY_CURRENCY + side;
                case 'Z':
                case '*': return SUPPRESSED + side;
                case '9': return NINE;
                case 'A':
                case 'X': return LETTER;
                case 'S': return S_SIGN;
                case 'V': return V_SIGN;
                case 'P': return (kindsAhead & ~BEFORE_LEADING_P) == 0 ? LEADING_P : TRAILING_P;
                case 'N': return NATIONAL;
                default: return INSERTED;
            }
        }

        void findDigits() {
            for (int run = 0; run < size && run < TEXT_ROOM; run++) {
                int count = 0;
                if (holds(OTHER_DIGITS, kinds[run])) {
                    count = times[run];
                } else if (holds(FLOATING, kinds[run])) {
                    count = standsAhead(signs[run], run) ? times[run] : times[run] - 1;
                }
                digitCounts[run] = count;
            }
        }

        private boolean standsAhead(int sign, int end) {
            for (int run = 0; run < end && run < TEXT_ROOM; run++) {
                if (signs[run] == sign) {
                    return true;
                }
            }
            return false;
        }

        /** The place of the first sign that can't stand where it does, else NONE. */
        int firstMisplaced() {
            int allowed = ALL_KINDS;
            int digitSum = 0;
            int signSum = 0;
            for (int run = 0; run < size && run < TEXT_ROOM; run++) {
                int kind = kinds[run];
                if (!isKind(kind) || !holds(allowed, kind)) {
                    return places[run];
                }
                allowed &= MAY_COME_BEHIND[kind];
                // The second of a run stands behind the first: not every kind may come behind itself.
                if (times[run] > 1 && !holds(allowed, kind) || hasRivalAhead(run)) {
                    return places[run];
                }
                digitSum += digitCounts[run];
                signSum += signsCounted(signs[run], times[run]);
                if (digitSum > MOST_DIGITS || signSum > MOST_SIGNS) {
                    return places[run];
                }
            }
            return NONE;
        }

        private boolean hasRivalAhead(int run) {
            if (run < 0 || run >= TEXT_ROOM) {
                return false;
            }
            switch (signs[run]) {
                case 'Z': return standsAhead('*', run);
                case '*': return standsAhead('Z', run);
                case '+': return holds(FLOATING, kinds[run]) && standsAhead('-', run);
                case '-': return holds(FLOATING, kinds[run]) && standsAhead('+', run);
                default: return false;
            }
        }

        int kindsPresent() {
            int present = 0;
            for (int run = 0; run < size && run < TEXT_ROOM; run++) {
                present |= 1 << kinds[run];
            }
            return present;
        }

        /** The run that the point is at or ahead of; the number of runs when it is behind all digits. */
        int pointRun() {
            for (int run = 0; run < size && run < TEXT_ROOM; run++) {
                if (holds(POINTS, kinds[run])) {
                    return run;
                }
            }
            return size;
        }

        int digitsIn(int start, int end) {
            int sum = 0;
            for (int run = Math.max(start, 0); run < end && run < size && run < TEXT_ROOM; run++) {
                sum += digitCounts[run];
            }
            return sum;
        }

        int allSignsCounted() {
            int sum = 0;
            for (int run = 0; run < size && run < TEXT_ROOM; run++) {
                sum += signsCounted(signs[run], times[run]);
            }
            return sum;
        }

        int categoryOf(int present) {
            if (holds(present, NATIONAL)) {
                return holds(present, INSERTED) ? 6 : 5;
            }
            if (holds(present, LETTER)) {
                if (holds(present, INSERTED)) {
                    return 2;
                }
                return standsAhead('X', size) || standsAhead('9', size) ? 1 : 0;
            }
            return (present & ~NUMERIC) == 0 ? 3 : 4;
        }
    }

    /** A picture that was read well. */
    private static final class Picture {
        private final int[] signs;
        private final int[] times;
        private final int[] kinds;
        private final int currencySign;
        private final int signCount;
        private final int category;
        private final int digitsAhead;
        private final int digitsBehind;
        private final int scale;
        private final Effect effect;

        Picture(Runs runs, int currencySign) {
            int size = Math.max(runs.size, 0);
            int present = runs.kindsPresent();
            int point = runs.pointRun();
            signs = Arrays.copyOf(runs.signs, size);
            times = Arrays.copyOf(runs.times, size);
            kinds = Arrays.copyOf(runs.kinds, size);
            this.currencySign = currencySign;
            signCount = runs.allSignsCounted();
            category = runs.categoryOf(present);
            digitsAhead = runs.digitsIn(0, point);
            digitsBehind = runs.digitsIn(point, size);
            scale = holds(present, TRAILING_P) ? -runs.countOf('P') : digitsBehind;
            // The table lets V stand only behind P of kind 17 and only ahead of P of kind 16.
            boolean idleV = digitsBehind == 0 || (present & ANY_P) != 0;
            effect = new Effect(size);
            for (int run = 0; run < size && run < signs.length && run < times.length; run++) {
                if (signs[run] != 'V' || !idleV) {
                    effect.add(signs[run], times[run]);
                }
            }
        }

        boolean isNumber() {
            return category == 3 || category == 4;
        }

        int characterAt(int index) {
            if (index < 0) {
                return NONE;
            }
            int left = index;
            for (int run = 0; run < signs.length && run < times.length; run++) {
                int span = times[run] * widthOf(signs[run]);
                if (left < span) {
                    return letterOf(signs[run], left);
                }
                left -= span;
            }
            return NONE;
        }

        private int letterOf(int sign, int index) {
            switch (sign) {
                case CURRENCY: return currencySign;
                case 'C': return index % 2 == 0 ? 'C' : 'R';
                case 'D': return index % 2 == 0 ? 'D' : 'B';
                default: return sign;
            }
        }

        int insertionsOf(int insertionKind) {
            switch (insertionKind) {
                case 0: return countOf('B');
                case 1: return countOf('0');
                case 2: return countOf('/');
                case 3: return countOf(',');
                case 4: return countOf('.');
                case 5: return countOfKind(FIRST_PLUS_MINUS) + countOfKind(OTHER_PLUS_MINUS);
                case 6: return countOfKind(ONE_CURRENCY);
                default: return NONE;
            }
        }

        private int countOf(int sign) {
            int count = 0;
            for (int run = 0; run < signs.length && run < times.length; run++) {
                count += signs[run] == sign ? times[run] : 0;
            }
            return count;
        }

        private int countOfKind(int kind) {
            int count = 0;
            for (int run = 0; run < kinds.length && run < times.length; run++) {
                count += kinds[run] == kind ? times[run] : 0;
            }
            return count;
        }
    }

    /** The signs that make a picture's effect; neighbours that are alike stand as one run. */
    private static final class Effect {
        private final int[] signs;
        private final int[] times;
        private int size = 0;

        Effect(int room) {
            signs = new int[Math.max(room, 0)];
            times = new int[Math.max(room, 0)];
        }

        void add(int sign, int count) {
            int last = size - 1;
            if (last >= 0 && last < signs.length && last < times.length && signs[last] == sign) {
                times[last] += count;
            } else if (size >= 0 && size < signs.length && size < times.length) {
                signs[size] = sign;
                times[size] = count;
                size++;
            }
        }

        boolean equalTo(Effect other) {
            if (other == null || other.size != size) {
                return false;
            }
            for (int run = 0; run < size; run++) {
                if (signOf(run) != other.signOf(run) || timesOf(run) != other.timesOf(run)) {
                    return false;
                }
            }
            return true;
        }

        private int signOf(int run) {
            return run >= 0 && run < signs.length ? signs[run] : NONE;
        }

        private int timesOf(int run) {
            return run >= 0 && run < times.length ? times[run] : 0;
        }
    }
}
