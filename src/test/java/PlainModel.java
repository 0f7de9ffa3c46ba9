import java.util.ArrayList;
import java.util.List;
import java.util.regex.Pattern;

/**
 * The document once more, in another form: cells of two boolean faces, work texts that are found by
 * trying, states that are copied whole. It is slow and has no thought for LANGUAGE.md; ModelTest
 * compares the program with it.
 */
final class PlainModel {
    static final int NONE = -1;

    private boolean[][][][] hole = new boolean[3][2][8][8];
    private int[] views = new int[3];
    private String buffer = "";
    private final List<Object[]> saved = new ArrayList<>();

    // ---- helpers

    private static void need(boolean fine, RuntimeException otherwise) {
        if (!fine) {
            throw otherwise;
        }
    }

    private static boolean within(int number, int most) {
        return number >= 0 && number <= most;
    }

    private static void index(int number, int most) {
        if (!within(number, most)) {
            throw new IndexOutOfBoundsException();
        }
    }

    private static boolean[][][][] copyOf(boolean[][][][] from) {
        boolean[][][][] to = new boolean[3][2][8][8];
        for (int k = 0; k < 3; k++) {
            for (int f = 0; f < 2; f++) {
                for (int r = 0; r < 8; r++) {
                    to[k][f][r] = from[k][f][r].clone();
                }
            }
        }
        return to;
    }

    private void save() {
        saved.add(new Object[] {copyOf(hole), views.clone()});
        if (saved.size() > 6) {
            saved.remove(0);
        }
    }

    private int kindOf(int k, int r, int c) {
        boolean f = hole[k][0][r][c];
        boolean b = hole[k][1][r][c];
        return f && b ? 3 : f ? 1 : b ? 0 : 2;
    }

    private void put(int k, int r, int c, int bit) {
        hole[k][bit == 1 ? 0 : 1][r][c] = true;
    }

    /** Bits of all cells, NONE where not told, as if the cell (withoutR, withoutC) was not sound. */
    private int[][] tell(int k, int withoutR, int withoutC) {
        int[][] bits = new int[8][8];
        for (int r = 0; r < 8; r++) {
            for (int c = 0; c < 8; c++) {
                int kind = kindOf(k, r, c);
                bits[r][c] = kind <= 1 && !(r == withoutR && c == withoutC) ? kind : NONE;
            }
        }
        boolean again = true;
        while (again) {
            again = false;
            for (int line = 0; line < 16; line++) {
                int missing = 0;
                int ones = 0;
                int at = -1;
                for (int i = 0; i < 8; i++) {
                    int bit = line < 8 ? bits[line][i] : bits[i][line - 8];
                    if (bit == NONE) {
                        missing++;
                        at = i;
                    } else {
                        ones += bit;
                    }
                }
                if (missing == 1) {
                    if (line < 8) {
                        bits[line][at] = ones % 2;
                    } else {
                        bits[at][line - 8] = ones % 2;
                    }
                    again = true;
                }
            }
        }
        return bits;
    }

    private static int unknownIn(int[][] bits) {
        int n = 0;
        for (int[] row : bits) {
            for (int bit : row) {
                n += bit == NONE ? 1 : 0;
            }
        }
        return n;
    }

    private List<Integer> disagreeing(int k) {
        int[][] bits = tell(k, -1, -1);
        List<Integer> lines = new ArrayList<>();
        for (int line = 0; line < 16; line++) {
            int ones = 0;
            boolean whole = true;
            for (int i = 0; i < 8; i++) {
                int bit = line < 8 ? bits[line][i] : bits[i][line - 8];
                whole = whole && bit != NONE;
                ones += bit;
            }
            if (whole && ones % 2 == 1) {
                lines.add(line);
            }
        }
        return lines;
    }

    private static int number(int[] bits) {
        int sum = 0;
        int weight = 64;
        for (int c = 0; c < 7; c++) {
            if (bits[c] != 0 && bits[c] != 1) {
                return NONE;
            }
            sum += weight * bits[c];
            weight /= 2;
        }
        return sum;
    }

    /** The place of what is seen: face, row, column. */
    private int[] place(int k, int r, int c) {
        switch (views[k]) {
            case 0:
                return new int[] {0, r, c};
            case 1:
                return new int[] {0, 7 - r, 7 - c};
            case 2:
                return new int[] {1, r, 7 - c};
            default:
                return new int[] {1, 7 - r, c};
        }
    }

    private boolean rowIsBlank(int k, int r) {
        for (int c = 0; c < 8; c++) {
            if (kindOf(k, r, c) != 2) {
                return false;
            }
        }
        return true;
    }

    private boolean closable(int k) {
        for (int r = 0; r < 7; r++) {
            for (int c = 0; c < 8; c++) {
                if (kindOf(k, r, c) > 1) {
                    return false;
                }
            }
        }
        return rowIsBlank(k, 7);
    }

    private int punchNow(int k, int row, int value) {
        String bits = Integer.toBinaryString(128 + value).substring(1);
        int ones = 0;
        for (int c = 0; c < 7; c++) {
            put(k, row, c, bits.charAt(c) - '0');
            ones += bits.charAt(c) - '0';
        }
        put(k, row, 7, ones % 2);
        return ones % 2;
    }

    private int closeNow(int k) {
        int total = 0;
        for (int c = 0; c < 8; c++) {
            int ones = 0;
            for (int r = 0; r < 7; r++) {
                ones += kindOf(k, r, c);
            }
            put(k, 7, c, ones % 2);
            total += ones % 2;
        }
        return total;
    }

    private void clean(int k) {
        hole[k] = new boolean[2][8][8];
        views[k] = 0;
    }

    // ---- the face

    int punch(int card, int row, int value) {
        index(card, 2);
        index(row, 6);
        need(within(value, 127), new IllegalArgumentException());
        need(rowIsBlank(card, row), new IllegalStateException());
        save();
        return punchNow(card, row, value);
    }

    int close(int card) {
        index(card, 2);
        need(closable(card), new IllegalStateException());
        save();
        return closeNow(card);
    }

    int renew(int card) {
        index(card, 2);
        save();
        int holes = 0;
        for (int f = 0; f < 2; f++) {
            for (int r = 0; r < 8; r++) {
                for (int c = 0; c < 8; c++) {
                    holes += hole[card][f][r][c] ? 1 : 0;
                }
            }
        }
        clean(card);
        return holes;
    }

    int copy(int card, int other) {
        index(card, 2);
        index(other, 2);
        need(card != other, new IllegalArgumentException());
        save();
        int[][] bits = tell(card, -1, -1);
        clean(other);
        for (int r = 0; r < 8; r++) {
            for (int c = 0; c < 8; c++) {
                if (bits[r][c] != NONE) {
                    put(other, r, c, bits[r][c]);
                }
            }
        }
        return count(other, 2);
    }

    int wear(int card, int row, int column) {
        return changeSeen(card, row, column, true);
    }

    int lose(int card, int row, int column) {
        return changeSeen(card, row, column, false);
    }

    private int changeSeen(int card, int row, int column, boolean to) {
        need(sees(card, row, column) != to, new IllegalStateException());
        save();
        int[] p = place(card, row, column);
        hole[card][p[0]][p[1]][p[2]] = to;
        return kindOf(card, p[1], p[2]);
    }

    int turn(int card, int view) {
        index(card, 2);
        need(within(view, 3), new IllegalArgumentException());
        save();
        int previous = views[card];
        views[card] = view;
        return previous;
    }

    int view(int card) {
        index(card, 2);
        return views[card];
    }

    boolean sees(int card, int row, int column) {
        index(card, 2);
        index(row, 7);
        index(column, 7);
        int[] p = place(card, row, column);
        return hole[card][p[0]][p[1]][p[2]];
    }

    int raw(int card, int row) {
        index(card, 2);
        index(row, 7);
        int sum = 0;
        int weight = 128;
        for (int c = 0; c < 8; c++) {
            sum += sees(card, row, c) ? weight : 0;
            weight /= 2;
        }
        return sum;
    }

    int kind(int card, int row, int column) {
        index(card, 2);
        index(row, 7);
        index(column, 7);
        return kindOf(card, row, column);
    }

    int told(int card, int row, int column) {
        kind(card, row, column);
        return tell(card, -1, -1)[row][column];
    }

    int count(int card, int kind) {
        index(card, 2);
        index(kind, 3);
        int n = 0;
        for (int r = 0; r < 8; r++) {
            for (int c = 0; c < 8; c++) {
                n += kindOf(card, r, c) == kind ? 1 : 0;
            }
        }
        return n;
    }

    int read(int card, int row) {
        index(card, 2);
        index(row, 6);
        int[] bits = new int[7];
        for (int c = 0; c < 7; c++) {
            bits[c] = kindOf(card, row, c);
        }
        return number(bits);
    }

    int value(int card, int row) {
        index(card, 2);
        index(row, 6);
        return number(tell(card, -1, -1)[row]);
    }

    int untold(int card) {
        index(card, 2);
        return unknownIn(tell(card, -1, -1));
    }

    int disagreements(int card) {
        index(card, 2);
        return disagreeing(card).size();
    }

    int disagreement(int card, int index) {
        index(card, 2);
        need(index >= 0, new IndexOutOfBoundsException());
        List<Integer> lines = disagreeing(card);
        return index < lines.size() ? lines.get(index) : NONE;
    }

    double soundShare(int card) {
        return (count(card, 0) + count(card, 1)) / 64.0;
    }

    int untoldIf(int card, int row, int column) {
        return kind(card, row, column) <= 1 ? unknownIn(tell(card, row, column)) : NONE;
    }

    int worst(int card) {
        index(card, 2);
        int[] forecasts = new int[64];
        for (int cell = 0; cell < 64; cell++) {
            forecasts[cell] = untoldIf(card, cell / 8, cell % 8);
        }
        for (int most = 64; most >= 0; most--) {
            for (int cell = 0; cell < 64; cell++) {
                if (forecasts[cell] == most) {
                    return cell;
                }
            }
        }
        return NONE;
    }

    int difference(int card, int other) {
        index(card, 2);
        index(other, 2);
        int[][] one = tell(card, -1, -1);
        int[][] two = tell(other, -1, -1);
        int n = 0;
        for (int r = 0; r < 8; r++) {
            for (int c = 0; c < 8; c++) {
                n += one[r][c] != NONE && two[r][c] != NONE && one[r][c] != two[r][c] ? 1 : 0;
            }
        }
        return n;
    }

    int append(int code) {
        need(within(code - 33, 93), new IllegalArgumentException());
        need(buffer.length() < 60, new IllegalStateException());
        buffer += (char) code;
        return buffer.length();
    }

    int clearText() {
        int length = buffer.length();
        buffer = "";
        return length;
    }

    private static final String PART =
            "(p[0-6]=(0|[1-9][0-9]?|1[01][0-9]|12[0-7])|c|[wx][fb][0-7][0-7]|v[0-3])";

    private static final Pattern WORK_TEXT = Pattern.compile(PART + "(;" + PART + ")*");

    private static boolean isWorkText(String text) {
        return WORK_TEXT.matcher(text).matches();
    }

    /** What any part can still need behind a beginning of it, and a whole part behind ";". */
    private static final String[] ENDINGS = {"", "c", "0", "=0", "0=0", "00", "f00"};

    private static boolean isBeginning(String text) {
        for (String ending : ENDINGS) {
            if (isWorkText(text + ending)) {
                return true;
            }
        }
        return text.isEmpty();
    }

    int firstError() {
        for (int i = 0; i < buffer.length(); i++) {
            if (!isBeginning(buffer.substring(0, i + 1))) {
                return i;
            }
        }
        return buffer.length();
    }

    int run() {
        need(isWorkText(buffer), new IllegalArgumentException());
        save();
        int done = 0;
        for (String part : buffer.split(";")) {
            if (!does(part)) {
                break;
            }
            done++;
        }
        buffer = "";
        return done;
    }

    private boolean does(String part) {
        char letter = part.charAt(0);
        if (letter == 'p') {
            int row = part.charAt(1) - '0';
            if (!rowIsBlank(0, row)) {
                return false;
            }
            punchNow(0, row, Integer.parseInt(part.substring(3)));
        } else if (letter == 'c') {
            if (!closable(0)) {
                return false;
            }
            closeNow(0);
        } else if (letter == 'v') {
            views[0] = part.charAt(1) - '0';
        } else {
            boolean[] row = hole[0][part.charAt(1) == 'f' ? 0 : 1][part.charAt(2) - '0'];
            int column = part.charAt(3) - '0';
            if (row[column] == (letter == 'w')) {
                return false;
            }
            row[column] = letter == 'w';
        }
        return true;
    }

    int undo() {
        need(!saved.isEmpty(), new IllegalStateException());
        Object[] state = saved.remove(saved.size() - 1);
        hole = (boolean[][][][]) state[0];
        views = (int[]) state[1];
        return saved.size();
    }

    int savedStates() {
        return saved.size();
    }

    long digest() {
        List<Integer> values = new ArrayList<>();
        for (int k = 0; k < 3; k++) {
            values.add(views[k]);
            for (int kind = 0; kind < 4; kind++) {
                values.add(count(k, kind));
            }
            values.add(untold(k));
            values.add(disagreements(k));
            values.add(worst(k));
            for (int r = 0; r < 8; r++) {
                values.add(raw(k, r));
            }
            for (int r = 0; r < 7; r++) {
                values.add(read(k, r));
                values.add(value(k, r));
            }
            int[][] bits = tell(k, -1, -1);
            for (int r = 0; r < 8; r++) {
                for (int c = 0; c < 8; c++) {
                    values.add(kindOf(k, r, c));
                    values.add(bits[r][c]);
                }
            }
        }
        long hash = 4876;
        for (int v : values) {
            hash = 31 * hash + v;
        }
        return hash;
    }
}
