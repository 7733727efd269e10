import java.math.BigInteger;
import java.util.ArrayList;
import java.util.List;

/** Reads a text sign by sign and gathers all faults up to the first that stops the reading; then picks the first. */
final class PlainText {
    private record Sign(int place, String text) { }

    private final List<int[]> faults = new ArrayList<>();
    private final List<List<BigInteger[]>> rows = new ArrayList<>();
    private final List<Sign> signs = new ArrayList<>();
    private final int length;

    PlainText(String text) {
        length = text.length();
        split(text);
        read();
        faults.sort((a, b) -> a[1] != b[1] ? Integer.compare(a[1], b[1]) : Integer.compare(a[0], b[0]));
    }

    int fault() {
        return faults.isEmpty() ? 0 : faults.get(0)[0];
    }

    int place() {
        return faults.isEmpty() ? -1 : faults.get(0)[1];
    }

    List<List<BigInteger[]>> fractions() {
        return rows;
    }

    private void split(String text) {
        int i = 0;
        while (i < text.length()) {
            int end = i;
            while (end < text.length() && text.charAt(end) >= '0' && text.charAt(end) <= '9') {
                end++;
            }
            if (end > i) {
                signs.add(new Sign(i, text.substring(i, end)));
                i = end;
            } else {
                if (text.charAt(i) != ' ' && text.charAt(i) != '\n') {
                    signs.add(new Sign(i, text.substring(i, i + 1)));
                }
                i++;
            }
        }
    }

    private void add(int fault, int place) {
        faults.add(new int[] {fault, place});
    }

    private static boolean isNumber(String sign) {
        return Character.isDigit(sign.charAt(0)) && sign.charAt(0) < 128;
    }

    /** What may come: a fraction or ";" in a row, and behind a fraction's first number "/" too. */
    private void read() {
        List<BigInteger[]> row = new ArrayList<>();
        String before = ";";
        boolean divided = false;
        int opened = 0;
        for (Sign sign : signs) {
            String text = sign.text();
            boolean afterStroke = before.equals("/");
            boolean begins = !afterStroke && (isNumber(text) || text.equals(";")) && row.isEmpty();
            if (begins) {
                opened++;
                if (opened > 8) {
                    add(3, sign.place());
                }
            }
            if (isNumber(text)) {
                if (text.length() > 6) {
                    add(1, sign.place());
                }
                if (afterStroke) {
                    if (new BigInteger(text).signum() == 0) {
                        add(2, sign.place());
                    }
                    row.get(row.size() - 1)[1] = new BigInteger(text);
                    divided = true;
                } else {
                    row.add(new BigInteger[] {new BigInteger(text), BigInteger.ONE});
                    divided = false;
                    if (row.size() > 8) {
                        add(3, sign.place());
                    }
                    if (!rows.isEmpty() && row.size() > rows.get(0).size()) {
                        add(4, sign.place());
                    }
                }
            } else if (text.equals(";") && !afterStroke) {
                if (!rows.isEmpty() && row.size() != rows.get(0).size()) {
                    add(4, sign.place());
                }
                rows.add(row);
                row = new ArrayList<>();
            } else if (text.equals("/") && isNumber(before) && !divided) {
                divided = false;
            } else {
                add(1, sign.place());
                return;
            }
            before = text;
        }
        if (!row.isEmpty()) {
            add(1, length);
        }
        if (rows.size() != (rows.isEmpty() ? 0 : rows.get(0).size())) {
            add(5, length);
        }
    }
}
