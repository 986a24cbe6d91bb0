import java.util.ArrayList;
import java.util.List;

/** An object's state by the document's words, over the slow reading: what each call is due to answer. */
final class Model {
    private final StringBuilder text = new StringBuilder();
    private final List<Oracle> kept = new ArrayList<>();
    private Oracle latest = null;
    private char currency = '$';

    void sign(int c) {
        if (text.length() < 80) {
            text.append(c >= 1 && c <= 126 ? (char) c : '\0');
        }
    }

    int read() {
        Oracle oracle = new Oracle(text.toString(), currency);
        text.setLength(0);
        if (oracle.answer >= 0) {
            latest = oracle;
            if (kept.size() < 40) {
                kept.add(oracle);
            }
        }
        return oracle.answer;
    }

    int category() {
        return latest == null ? -1 : latest.category();
    }

    int digits(int side) {
        return latest == null || side != 0 && side != 1 ? -1 : latest.digits(side);
    }

    int scale() {
        return latest == null ? 0 : latest.scale();
    }

    int currency(int c) {
        if (c < 33 || c > 126 || "0123456789AXZBSVPNCDERaxzbsvpncder*+-,./;()='\"".indexOf(c) >= 0) {
            return -1;
        }
        int before = currency;
        currency = (char) c;
        return before;
    }

    int at(int i) {
        String characters = latest == null ? "" : latest.characters();
        return i < 0 || i >= characters.length() ? -1 : characters.charAt(i);
    }

    boolean same(int other) {
        return latest != null && other >= 0 && other < kept.size()
                && kept.get(other).effect().equals(latest.effect());
    }

    int insertion(int kind) {
        return latest == null || kind < 0 || kind > 6 ? -1 : latest.insertion(kind);
    }
}
