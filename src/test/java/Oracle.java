import java.util.ArrayList;
import java.util.HashSet;
import java.util.List;
import java.util.Set;
import java.util.regex.Matcher;
import java.util.regex.Pattern;

/** The document's words once more, slowly: every sign stands for itself, none in runs. */
final class Oracle {
    private static final String[] BEHIND = {
        " 0 1 2 4 6 7 8 9 10 11 12 13 15 17 18 ", " 0 1 2 4 6 7 8 9 10 11 12 15 17 ", " 0 1 4 7 9 11 12 ",
        " 0 1 2 5 6 7 10 11 12 15 16 17 ", "", " 0 1 2 4 6 7 8 9 12 15 16 17 ", " 0 1 2 4 6 7 12 15 17 ", " 0 1 4 7 ",
        " 0 1 2 8 9 12 15 17 ", " 0 1 9 ", " 0 1 2 4 10 11 12 15 17 ", " 0 1 4 11 ", " 0 1 2 4 12 13 15 17 ", " 0 12 13 ",
        " 12 15 16 17 ", " 0 1 4 7 9 11 12 16 ", " 0 1 4 7 9 11 12 16 ", " 4 15 17 ", " 0 18 "};

    final List<String> signs = new ArrayList<>();
    final List<Integer> places = new ArrayList<>();
    final List<Integer> kinds = new ArrayList<>();
    final List<Boolean> digits = new ArrayList<>();
    final String currency;
    final int answer;

    Oracle(String text, char currency) {
        this.currency = String.valueOf(currency);
        int wrong = spell(text);
        if (wrong < 0) {
            tellKinds();
            wrong = firstMisplaced();
        }
        if (wrong < 0 && !hasValue()) {
            wrong = text.length();
        }
        answer = wrong >= 0 ? -1 - wrong : size();
    }

    /** 1 or 0 by the table; 2 when there is no such kind. */
    static int follows(int a, int b) {
        if (a < 0 || a > 18 || b < 0 || b > 18) {
            return 2;
        }
        return BEHIND[a].contains(" " + b + " ") ? 1 : 0;
    }

    private int spell(String text) {
        Pattern sign = Pattern.compile("(?i:CR|DB|[AX9Z*B0/,.+\\-SVPN])|" + Pattern.quote(currency));
        Pattern count = Pattern.compile("\\(([0-9]{1,4})\\)");
        Matcher matcher = sign.matcher(text);
        int place = 0;
        while (place < text.length()) {
            if (!matcher.find(place) || matcher.start() != place) {
                return place;
            }
            String found = matcher.group().equals(currency) ? currency : matcher.group().toUpperCase();
            int behind = matcher.end();
            int times = 1;
            if (behind < text.length() && text.charAt(behind) == '(') {
                Matcher counted = count.matcher(text);
                if (!counted.find(behind) || counted.start() != behind || Integer.parseInt(counted.group(1)) == 0) {
                    return behind;
                }
                times = Integer.parseInt(counted.group(1));
                behind = counted.end();
            }
            for (int n = 0; n < times; n++) {
                signs.add(found);
                places.add(place);
            }
            place = behind;
        }
        return -1;
    }

    private void tellKinds() {
        int plus = count("+");
        int minus = count("-");
        int money = count(currency);
        boolean point = false;
        boolean leading = true;
        Set<String> seen = new HashSet<>();
        for (int i = 0; i < signs.size(); i++) {
            String sign = signs.get(i);
            boolean first = seen.add(sign);
            boolean many = sign.equals("+") && plus > 1 || sign.equals("-") && minus > 1
                    || sign.equals(currency) && money > 1;
            int kind;
            if (sign.equals(currency)) {
                kind = !many ? 5 : point ? 11 : 10;
            } else if ("+-".contains(sign)) {
                kind = many ? (point ? 9 : 8) : i == 0 ? 3 : 4;
            } else if ("Z*".contains(sign)) {
                kind = point ? 7 : 6;
            } else if (sign.equals("P")) {
                kind = leading ? 16 : 17;
            } else {
                kind = "B0/".contains(sign) ? 0 : "AX".contains(sign) ? 13
                        : List.of(",", ".", "CR", "DB", "9", "S", "V", "N").indexOf(sign);
                if (!"B0/AX".contains(sign)) {
                    kind = new int[] {1, 2, 4, 4, 12, 14, 15, 18}[kind];
                }
            }
            kinds.add(kind);
            digits.add("9Z*P".contains(sign) || many && !first);
            point |= kind == 2 || kind == 15 || kind == 16;
            leading &= List.of(3, 5, 14, 15, 16).contains(kind);
        }
    }

    private int firstMisplaced() {
        int digitSum = 0;
        int signSum = 0;
        boolean[] ahead = new boolean[19];
        Set<String> seen = new HashSet<>();
        for (int i = 0; i < signs.size(); i++) {
            int kind = kinds.get(i);
            String sign = signs.get(i);
            for (int other = 0; other < 19; other++) {
                if (ahead[other] && !BEHIND[other].contains(" " + kind + " ")) {
                    return places.get(i);
                }
            }
            if (sign.equals("Z") && seen.contains("*") || sign.equals("*") && seen.contains("Z")) {
                return places.get(i);
            }
            if ((kind == 8 || kind == 9) && seen.contains(sign.equals("+") ? "-" : "+")) {
                return places.get(i);
            }
            digitSum += digits.get(i) ? 1 : 0;
            signSum += "SVP".contains(sign) ? 0 : sign.length();
            if (digitSum > 31 || signSum > 9999) {
                return places.get(i);
            }
            ahead[kind] = true;
            seen.add(sign);
        }
        return -1;
    }

    /** The pairs of kinds that this text's answer hangs on: those let through, and the one that was told if it was alone. */
    void addPairs(Set<String> stood, Set<String> told) {
        for (int i = 0; i < kinds.size(); i++) {
            Set<String> against = new HashSet<>();
            for (int other : kinds.subList(0, i)) {
                if (!BEHIND[other].contains(" " + kinds.get(i) + " ")) {
                    against.add(other + " " + kinds.get(i));
                }
            }
            if (against.size() == 1) {
                told.addAll(against);
            }
            if (answer == -1 - places.get(i)) {
                return;
            }
            for (int other : kinds.subList(0, i)) {
                stood.add(other + " " + kinds.get(i));
            }
        }
    }

    private boolean hasValue() {
        for (int i = 0; i < signs.size(); i++) {
            if ("AX9Z*N".contains(signs.get(i)) || kinds.get(i) >= 8 && kinds.get(i) <= 11) {
                return true;
            }
        }
        return false;
    }

    private int count(String sign) {
        int count = 0;
        for (String other : signs) {
            count += other.equals(sign) ? 1 : 0;
        }
        return count;
    }

    private int size() {
        int size = 0;
        for (String sign : signs) {
            size += "SVP".contains(sign) ? 0 : sign.length();
        }
        return size;
    }

    private boolean made(String allowed) {
        for (String sign : signs) {
            if (!allowed.contains(sign) || sign.equals(currency) || sign.length() > 1) {
                return false;
            }
        }
        return true;
    }

    int category() {
        if (made("A")) {
            return 0;
        }
        if (made("AX9") && !made("9")) {
            return 1;
        }
        if (made("AX9B0/") && (count("A") > 0 || count("X") > 0)) {
            return 2;
        }
        if (made("9SVP")) {
            return 3;
        }
        if (made("N")) {
            return 5;
        }
        return made("NB0/") && count("N") > 0 ? 6 : 4;
    }

    /** How many signs stand ahead of the point. */
    private int point() {
        for (int i = 0; i < signs.size(); i++) {
            if (signs.get(i).equals(".") || signs.get(i).equals("V")) {
                return i;
            }
        }
        if (kinds.contains(16)) {
            return kinds.indexOf(16);
        }
        return kinds.contains(17) ? kinds.lastIndexOf(17) + 1 : signs.size();
    }

    int digits(int side) {
        if (category() != 3 && category() != 4) {
            return -1;
        }
        int count = 0;
        int point = point();
        for (int i = 0; i < signs.size(); i++) {
            count += digits.get(i) && (i < point) == (side == 0) ? 1 : 0;
        }
        return count;
    }

    int scale() {
        if (category() != 3 && category() != 4) {
            return 0;
        }
        int between = 0;
        for (int kind : kinds) {
            between += kind == 17 ? 1 : 0;
        }
        return between > 0 ? -between : digits(1);
    }

    int insertion(int kind) {
        if (kind < 5) {
            return count(List.of("B", "0", "/", ",", ".").get(kind));
        }
        int count = 0;
        for (int other : kinds) {
            count += kind == 6 ? (other == 5 ? 1 : 0) : other == 3 || other == 4 ? 1 : 0;
        }
        return count;
    }

    String characters() {
        return String.join("", signs);
    }

    String effect() {
        StringBuilder effect = new StringBuilder();
        for (int i = 0; i < signs.size(); i++) {
            boolean idle = signs.get(i).equals("V") && (!digits.subList(i, digits.size()).contains(true)
                    || i > 0 && kinds.get(i - 1) == 17 || i + 1 < kinds.size() && kinds.get(i + 1) == 16);
            effect.append(idle ? "" : signs.get(i).equals(currency) ? "$" : signs.get(i));
        }
        return effect.toString();
    }
}
