/**
 * Three punched cards whose back is the complement of their front, with wear, check cells, views,
 * work texts and undo. The numbered promises are in ../shared/DOC.md.
 *
 * <p>Cells are numbered 8 * row + column, as seen from the front, the right way up; a set of cells
 * is a long in which the bit with the cell's number stands for the cell.
 */
public final class MirrorCards {
    /** There is no such number. */
    public static final int NONE = -1;

    private static final int CARDS = 3;
    private static final int SIDE = 8;
    private static final int LAST = 7;
    private static final int VALUE_ROWS = 7;
    private static final int VALUE_COLUMNS = 7;
    private static final int CHECK_ROW = 7;
    private static final int CHECK_COLUMN = 7;
    private static final int CELLS = 64;
    private static final int LINES = 16;
    private static final int KINDS = 4;
    private static final int VIEWS = 4;
    private static final int VALUE_MAX = 127;
    private static final int TEXT_CARD = 0;
    private static final int TEXT_MAX = 60;
    private static final int CODE_MIN = 33;
    private static final int CODE_MAX = 126;
    private static final int SAVED_MAX = 6;
    private static final long HASH_START = 4876L;
    private static final long TOP_ROW = 0xFFL;
    private static final long LEFT_COLUMN = 0x0101010101010101L;

    private final Card[] cards;
    private final Telling telling;
    private final Telling forecast;
    private final History history;
    private final PartReader reader;
    private final StringBuilder text;

    /** Promise 1. */
    public MirrorCards() {
        cards = new Card[CARDS];
        for (int i = 0; i < CARDS; i++) {
            cards[i] = new Card();
        }
        telling = new Telling();
        forecast = new Telling();
        history = new History();
        reader = new PartReader();
        text = new StringBuilder();
    }

    // ---- punching

    /** Promise 2. */
    public int punch(int card, int row, int value)
            throws IndexOutOfBoundsException, IllegalArgumentException, IllegalStateException {
        Card punched = cardAt(card);
        requireRowWithValue(row);
        if (value < 0 || value > VALUE_MAX) {
            throw new IllegalArgumentException("a value is 0 to 127");
        }
        if (!punched.canPunch(row)) {
            throw new IllegalStateException("a cell of the row is not blank");
        }
        history.save(cards);
        return punched.punchRow(row, value);
    }

    /** Promise 3. */
    public int close(int card) throws IndexOutOfBoundsException, IllegalStateException {
        Card closed = cardAt(card);
        if (!closed.canClose()) {
            throw new IllegalStateException("the card can't be closed");
        }
        history.save(cards);
        return closed.punchCheckRow();
    }

    /** Promise 4. */
    public int renew(int card) throws IndexOutOfBoundsException {
        Card renewed = cardAt(card);
        history.save(cards);
        int holes = Long.bitCount(renewed.front) + Long.bitCount(renewed.back);
        renewed.clear();
        return holes;
    }

    /** Promise 5. */
    public int copy(int card, int other) throws IndexOutOfBoundsException, IllegalArgumentException {
        Card from = cardAt(card);
        Card onto = cardAt(other);
        if (card == other) {
            throw new IllegalArgumentException("a card is not copied onto itself");
        }
        history.save(cards);
        Telling told = tellingOf(from);
        onto.clear();
        onto.front = told.ones;
        onto.back = told.known & ~told.ones;
        return Long.bitCount(onto.blank());
    }

    // ---- wear, views

    /** Promise 6. */
    public int wear(int card, int row, int column) throws IndexOutOfBoundsException, IllegalStateException {
        Card worn = cardAt(card);
        requireCell(row, column);
        int cell = worn.seenCell(row, column);
        if (worn.hasHole(worn.showsBack(), cell)) {
            throw new IllegalStateException("there is a hole");
        }
        history.save(cards);
        worn.setHole(worn.showsBack(), cell, true);
        return worn.kindAt(cell);
    }

    /** Promise 7. */
    public int lose(int card, int row, int column) throws IndexOutOfBoundsException, IllegalStateException {
        Card losing = cardAt(card);
        requireCell(row, column);
        int cell = losing.seenCell(row, column);
        if (!losing.hasHole(losing.showsBack(), cell)) {
            throw new IllegalStateException("there is no hole");
        }
        history.save(cards);
        losing.setHole(losing.showsBack(), cell, false);
        return losing.kindAt(cell);
    }

    /** Promise 8. */
    public int turn(int card, int view) throws IndexOutOfBoundsException, IllegalArgumentException {
        Card turned = cardAt(card);
        if (view < 0 || view >= VIEWS) {
            throw new IllegalArgumentException("a view is 0 to 3");
        }
        history.save(cards);
        int previous = turned.lies;
        turned.lies = view;
        return previous;
    }

    /** Promise 9. */
    public int view(int card) throws IndexOutOfBoundsException {
        return cardAt(card).lies;
    }

    /** Promise 10. */
    public boolean sees(int card, int row, int column) throws IndexOutOfBoundsException {
        Card seen = cardAt(card);
        requireCell(row, column);
        return seen.showsHole(row, column);
    }

    /** Promise 11. */
    public int raw(int card, int row) throws IndexOutOfBoundsException {
        Card seen = cardAt(card);
        requireInSide(row);
        return seen.rawNumber(row);
    }

    // ---- cells

    /** Promise 12. */
    public int kind(int card, int row, int column) throws IndexOutOfBoundsException {
        Card asked = cardAt(card);
        requireCell(row, column);
        return asked.kindAt(cellNumber(row, column));
    }

    /** Promise 13. */
    public int told(int card, int row, int column) throws IndexOutOfBoundsException {
        Card asked = cardAt(card);
        requireCell(row, column);
        return tellingOf(asked).bitAt(cellNumber(row, column));
    }

    /** Promise 14. */
    public int count(int card, int kind) throws IndexOutOfBoundsException {
        Card asked = cardAt(card);
        if (kind < 0 || kind >= KINDS) {
            throw new IndexOutOfBoundsException("a kind is 0 to 3");
        }
        return Long.bitCount(asked.cellsOfKind(kind));
    }

    // ---- rows

    /** Promise 15. */
    public int read(int card, int row) throws IndexOutOfBoundsException {
        Card asked = cardAt(card);
        requireRowWithValue(row);
        return rowValue(asked.sound(), asked.ones(), row);
    }

    /** Promise 16. */
    public int value(int card, int row) throws IndexOutOfBoundsException {
        Card asked = cardAt(card);
        requireRowWithValue(row);
        Telling told = tellingOf(asked);
        return rowValue(told.known, told.ones, row);
    }

    /** Promise 17. */
    public int untold(int card) throws IndexOutOfBoundsException {
        return tellingOf(cardAt(card)).unknownCells();
    }

    /** Promise 18. */
    public int disagreements(int card) throws IndexOutOfBoundsException {
        return tellingOf(cardAt(card)).disagreeingLines();
    }

    /** Promise 19. */
    public int disagreement(int card, int index) throws IndexOutOfBoundsException {
        Card asked = cardAt(card);
        if (index < 0) {
            throw new IndexOutOfBoundsException("the index is negative");
        }
        return tellingOf(asked).disagreeingLine(index);
    }

    /** Promise 20. */
    public double soundShare(int card) throws IndexOutOfBoundsException {
        Card asked = cardAt(card);
        return (double) Long.bitCount(asked.sound()) / CELLS;
    }

    // ---- forecasts; they change nothing

    /** Promise 21. */
    public int untoldIf(int card, int row, int column) throws IndexOutOfBoundsException {
        Card asked = cardAt(card);
        requireCell(row, column);
        return untoldWithout(asked, cellNumber(row, column));
    }

    /** Promise 22. */
    public int worst(int card) throws IndexOutOfBoundsException {
        return worstCell(cardAt(card));
    }

    /** Promise 23. */
    public int difference(int card, int other) throws IndexOutOfBoundsException {
        Card one = cardAt(card);
        Card two = cardAt(other);
        Telling told = tellingOf(one);
        long known = told.known;
        long ones = told.ones;
        told = tellingOf(two);
        return Long.bitCount(known & told.known & (ones ^ told.ones));
    }

    // ---- work text

    /** Promise 24. */
    public int append(int code) throws IllegalArgumentException, IllegalStateException {
        if (code < CODE_MIN || code > CODE_MAX) {
            throw new IllegalArgumentException("a character code is 33 to 126");
        }
        if (text.length() >= TEXT_MAX) {
            throw new IllegalStateException("the buffer is full");
        }
        text.append((char) code);
        return text.length();
    }

    /** Promise 25. */
    public int clearText() {
        int length = text.length();
        text.setLength(0);
        return length;
    }

    /** Promise 26. */
    public int firstError() {
        return readText();
    }

    /** Promise 27. */
    public int run() throws IllegalArgumentException {
        if (readText() < text.length() || !reader.isPartWhole()) {
            throw new IllegalArgumentException("the buffer is not a complete work text");
        }
        history.save(cards);
        int done = doParts(cardAt(TEXT_CARD));
        text.setLength(0);
        return done;
    }

    // ---- undo

    /** Promise 28. */
    public int undo() throws IllegalStateException {
        if (!history.restores(cards)) {
            throw new IllegalStateException("no state is saved");
        }
        return history.kept;
    }

    /** Promise 29. */
    public int savedStates() {
        return history.kept;
    }

    /** Promise 30. */
    public long digest() {
        long hash = HASH_START;
        for (int i = 0; i < cards.length; i++) {
            Card card = cards[i];
            Telling told = tellingOf(card);
            hash = mixed(hash, card.lies);
            hash = mixedWithCounts(hash, card);
            hash = mixed(hash, told.unknownCells());
            hash = mixed(hash, told.disagreeingLines());
            hash = mixed(hash, worstCell(card));
            hash = mixedWithRows(hash, card, told);
            hash = mixedWithCells(hash, card, told);
        }
        return hash;
    }

    // ---- the parts of the hash

    private static long mixed(long hash, int next) {
        return 31L * hash + next;
    }

    private static long mixedWithCounts(long hash, Card card) {
        long result = hash;
        for (int kind = 0; kind < KINDS; kind++) {
            result = mixed(result, Long.bitCount(card.cellsOfKind(kind)));
        }
        return result;
    }

    private static long mixedWithRows(long hash, Card card, Telling told) {
        long result = hash;
        for (int row = 0; row < SIDE; row++) {
            result = mixed(result, card.rawNumber(row));
        }
        for (int row = 0; row < VALUE_ROWS; row++) {
            result = mixed(result, rowValue(card.sound(), card.ones(), row));
            result = mixed(result, rowValue(told.known, told.ones, row));
        }
        return result;
    }

    private static long mixedWithCells(long hash, Card card, Telling told) {
        long result = hash;
        for (int cell = 0; cell < CELLS; cell++) {
            result = mixed(result, card.kindAt(cell));
            result = mixed(result, told.bitAt(cell));
        }
        return result;
    }

    // ---- what several calls share

    private Card cardAt(int card) {
        if (card < 0 || card >= cards.length) {
            throw new IndexOutOfBoundsException("there is no such card");
        }
        return cards[card];
    }

    /** What is told on a card, until the next call of this method: there is one telling for all. */
    private Telling tellingOf(Card card) {
        telling.findAll(card.sound(), card.ones());
        return telling;
    }

    private static void requireInSide(int number) {
        if (number < 0 || number >= SIDE) {
            throw new IndexOutOfBoundsException("rows and columns are 0 to 7");
        }
    }

    private static void requireCell(int row, int column) {
        requireInSide(row);
        requireInSide(column);
    }

    private static void requireRowWithValue(int row) {
        if (row < 0 || row >= VALUE_ROWS) {
            throw new IndexOutOfBoundsException("rows with values are 0 to 6");
        }
    }

    private static int cellNumber(int row, int column) {
        return SIDE * row + column;
    }

    private static boolean isIn(long cells, int cell) {
        return (cells >>> cell & 1L) != 0L;
    }

    private static boolean isOdd(long cells) {
        return (Long.bitCount(cells) & 1) == 1;
    }

    private static long rowCells(int row) {
        return TOP_ROW << SIDE * row;
    }

    private static long columnCells(int column) {
        return LEFT_COLUMN << column;
    }

    /** The value of a row whose bits are known by some cells, NONE if one is missing. */
    private static int rowValue(long known, long ones, int row) {
        int value = 0;
        for (int column = 0; column < VALUE_COLUMNS; column++) {
            int cell = cellNumber(row, column);
            if (!isIn(known, cell)) {
                return NONE;
            }
            value = 2 * value + (isIn(ones, cell) ? 1 : 0);
        }
        return value;
    }

    private int untoldWithout(Card card, int cell) {
        if (!isIn(card.sound(), cell)) {
            return NONE;
        }
        long left = card.sound() & ~(1L << cell);
        forecast.findAll(left, card.ones() & left);
        return forecast.unknownCells();
    }

    private int worstCell(Card card) {
        int worstSoFar = NONE;
        int most = NONE;
        for (int cell = 0; cell < CELLS; cell++) {
            // a cell that is not sound has NONE here, which is never more
            int unknown = untoldWithout(card, cell);
            if (unknown > most) {
                most = unknown;
                worstSoFar = cell;
            }
        }
        return worstSoFar;
    }

    /** Reads the buffer up to its first error, and returns where that is, or the length. */
    private int readText() {
        reader.begin();
        for (int i = 0; i < text.length(); i++) {
            if (!reader.takes(text.charAt(i))) {
                return i;
            }
        }
        return text.length();
    }

    /** Does the parts of a complete work text up to the first that is not possible. */
    private int doParts(Card card) {
        int done = 0;
        reader.begin();
        for (int i = 0; i < text.length(); i++) {
            reader.takes(text.charAt(i));
            if (i + 1 >= text.length() || text.charAt(i + 1) == ';') {
                if (!tryPart(card)) {
                    return done;
                }
                done++;
            }
        }
        return done;
    }

    /** Does the part that the reader has read, and tells whether that was possible. */
    private boolean tryPart(Card card) {
        switch (reader.letter) {
            case 'p':
                return tryPunching(card, reader.row, reader.number);
            case 'c':
                return tryClosing(card);
            case 'v':
                card.lies = reader.number;
                return true;
            case 'w':
                return tryHole(card, true);
            default:
                return tryHole(card, false);
        }
    }

    private static boolean tryPunching(Card card, int row, int value) {
        if (!card.canPunch(row)) {
            return false;
        }
        card.punchRow(row, value);
        return true;
    }

    private static boolean tryClosing(Card card) {
        if (!card.canClose()) {
            return false;
        }
        card.punchCheckRow();
        return true;
    }

    private boolean tryHole(Card card, boolean hole) {
        int cell = cellNumber(reader.row, reader.column);
        if (card.hasHole(reader.inBack, cell) == hole) {
            return false;
        }
        card.setHole(reader.inBack, cell, hole);
        return true;
    }

    /** A card: the places with holes in both faces, and the view in which it lies. */
    private static final class Card {
        private long front;
        private long back;
        private int lies;

        private void clear() {
            front = 0L;
            back = 0L;
            lies = 0;
        }

        private void become(Card other) {
            front = other.front;
            back = other.back;
            lies = other.lies;
        }

        private long sound() {
            return front ^ back;
        }

        private long ones() {
            return front & ~back;
        }

        private long blank() {
            return ~(front | back);
        }

        private long cellsOfKind(int kind) {
            switch (kind) {
                case 0:
                    return back & ~front;
                case 1:
                    return ones();
                case 2:
                    return blank();
                default:
                    return front & back;
            }
        }

        private int kindAt(int cell) {
            if (isIn(front, cell)) {
                return isIn(back, cell) ? 3 : 1;
            }
            return isIn(back, cell) ? 0 : 2;
        }

        private boolean hasHole(boolean inBack, int cell) {
            return isIn(inBack ? back : front, cell);
        }

        private void setHole(boolean inBack, int cell, boolean hole) {
            long place = 1L << cell;
            if (inBack) {
                back = hole ? back | place : back & ~place;
            } else {
                front = hole ? front | place : front & ~place;
            }
        }

        private void punchBit(int row, int column, int bit) {
            setHole(bit == 0, cellNumber(row, column), true);
        }

        private boolean canPunch(int row) {
            return (rowCells(row) & ~blank()) == 0L;
        }

        /** Punches a blank row, and returns the bit of its check cell. */
        private int punchRow(int row, int value) {
            for (int column = 0; column < VALUE_COLUMNS; column++) {
                punchBit(row, column, value >> VALUE_COLUMNS - 1 - column & 1);
            }
            int check = Integer.bitCount(value) & 1;
            punchBit(row, CHECK_COLUMN, check);
            return check;
        }

        private boolean canClose() {
            long checkRow = rowCells(CHECK_ROW);
            return (sound() | checkRow) == -1L && (blank() & checkRow) == checkRow;
        }

        /** Punches the blank row 7, and returns the number of ones in it. */
        private int punchCheckRow() {
            long checked = ones() & ~rowCells(CHECK_ROW);
            for (int column = 0; column < SIDE; column++) {
                punchBit(CHECK_ROW, column, isOdd(checked & columnCells(column)) ? 1 : 0);
            }
            return Long.bitCount(ones() & rowCells(CHECK_ROW));
        }

        private boolean showsBack() {
            return lies >= 2;
        }

        /** The number of the cell at a seen row and a seen column. */
        private int seenCell(int row, int column) {
            boolean upsideDown = lies == 1 || lies == 3;
            // a card that is turned over and then by half a turn has its columns in order again
            boolean reversed = lies == 1 || lies == 2;
            return cellNumber(upsideDown ? LAST - row : row, reversed ? LAST - column : column);
        }

        private boolean showsHole(int row, int column) {
            return hasHole(showsBack(), seenCell(row, column));
        }

        private int rawNumber(int row) {
            int number = 0;
            for (int column = 0; column < SIDE; column++) {
                number = 2 * number + (showsHole(row, column) ? 1 : 0);
            }
            return number;
        }
    }

    /** The told cells of a card, and those among them with the bit 1. */
    private static final class Telling {
        private long known;
        private long ones;

        /** Tells all cells that follow from the sound ones. */
        private void findAll(long sound, long soundOnes) {
            known = sound;
            ones = soundOnes;
            // each round but the last tells a cell, so there can't be more rounds than these
            for (int round = 0; round <= CELLS; round++) {
                long before = known;
                for (int row = 0; row < SIDE; row++) {
                    tellLastOf(rowCells(row));
                }
                for (int column = 0; column < SIDE; column++) {
                    tellLastOf(columnCells(column));
                }
                if (known == before) {
                    return;
                }
            }
        }

        private void tellLastOf(long line) {
            long missing = line & ~known;
            if (Long.bitCount(missing) != 1) {
                return;
            }
            if (isOdd(line & ones)) {
                ones |= missing;
            }
            known |= missing;
        }

        private int unknownCells() {
            return Long.bitCount(~known);
        }

        private int bitAt(int cell) {
            if (!isIn(known, cell)) {
                return NONE;
            }
            return isIn(ones, cell) ? 1 : 0;
        }

        private boolean disagrees(int line) {
            long cells = line < SIDE ? rowCells(line) : columnCells(line - SIDE);
            return (cells & ~known) == 0L && isOdd(cells & ones);
        }

        private int disagreeingLines() {
            int lines = 0;
            for (int line = 0; line < LINES; line++) {
                if (disagrees(line)) {
                    lines++;
                }
            }
            return lines;
        }

        /** The line with this index among those that disagree, NONE if there are not so many. */
        private int disagreeingLine(int index) {
            int before = 0;
            for (int line = 0; line < LINES; line++) {
                if (disagrees(line)) {
                    if (before == index) {
                        return line;
                    }
                    before++;
                }
            }
            return NONE;
        }
    }

    /** The saved states, the oldest first, in cards that are made once: a call makes no objects. */
    private static final class History {
        private final Card[] saved;
        private int kept;

        private History() {
            saved = new Card[SAVED_MAX * CARDS];
            for (int i = 0; i < saved.length; i++) {
                saved[i] = new Card();
            }
            kept = 0;
        }

        private void save(Card[] cards) {
            if (kept >= SAVED_MAX) {
                discardOldest();
            }
            int start = kept * CARDS;
            for (int i = 0; i < cards.length && start + i < saved.length; i++) {
                saved[start + i].become(cards[i]);
            }
            kept++;
        }

        private void discardOldest() {
            for (int i = 0; i + CARDS < saved.length; i++) {
                saved[i].become(saved[i + CARDS]);
            }
            kept--;
        }

        /** Restores the newest state, unless there is none. */
        private boolean restores(Card[] cards) {
            if (kept <= 0) {
                return false;
            }
            kept--;
            int start = kept * CARDS;
            for (int i = 0; i < cards.length && start + i < saved.length; i++) {
                cards[i].become(saved[start + i]);
            }
            return true;
        }
    }

    /** Reads a work text by its characters; the fields hold what the part at hand says. */
    private static final class PartReader {
        private static final int AT_LETTER = 0;
        private static final int AT_FACE = 1;
        private static final int AT_ROW = 2;
        private static final int AT_COLUMN = 3;
        private static final int AT_EQUALS = 4;
        private static final int AT_VALUE = 5;
        private static final int IN_VALUE = 6;
        private static final int AT_VIEW = 7;
        private static final int AT_END = 8;

        private int step;
        private char letter;
        private boolean inBack;
        private int row;
        private int column;
        private int number;

        private void begin() {
            step = AT_LETTER;
        }

        private boolean isPartWhole() {
            return step == IN_VALUE || step == AT_END;
        }

        /** Takes the next character, unless no work text goes on with it. */
        private boolean takes(char sign) {
            switch (step) {
                case AT_LETTER:
                    return takesLetter(sign);
                case AT_FACE:
                    return takesFace(sign);
                case AT_ROW:
                    return takesRow(sign);
                case AT_COLUMN:
                    return takesColumn(sign);
                case AT_EQUALS:
                    return takesSign(sign, '=', AT_VALUE);
                case AT_VALUE:
                    return takesNumber(sign, 9, IN_VALUE);
                case IN_VALUE:
                    return takesMoreOfValue(sign);
                case AT_VIEW:
                    return takesNumber(sign, VIEWS - 1, AT_END);
                default:
                    return takesSign(sign, ';', AT_LETTER);
            }
        }

        private boolean takesLetter(char sign) {
            letter = sign;
            switch (sign) {
                case 'p':
                    step = AT_ROW;
                    return true;
                case 'c':
                    step = AT_END;
                    return true;
                case 'w':
                case 'x':
                    step = AT_FACE;
                    return true;
                case 'v':
                    step = AT_VIEW;
                    return true;
                default:
                    return false;
            }
        }

        private boolean takesFace(char sign) {
            if (sign != 'f' && sign != 'b') {
                return false;
            }
            inBack = sign == 'b';
            step = AT_ROW;
            return true;
        }

        private boolean takesRow(char sign) {
            boolean punches = letter == 'p';
            int digit = digitUpTo(punches ? VALUE_ROWS - 1 : LAST, sign);
            if (digit == NONE) {
                return false;
            }
            row = digit;
            step = punches ? AT_EQUALS : AT_COLUMN;
            return true;
        }

        private boolean takesColumn(char sign) {
            int digit = digitUpTo(LAST, sign);
            if (digit == NONE) {
                return false;
            }
            column = digit;
            step = AT_END;
            return true;
        }

        private boolean takesSign(char sign, char due, int next) {
            if (sign != due) {
                return false;
            }
            step = next;
            return true;
        }

        private boolean takesNumber(char sign, int most, int next) {
            int digit = digitUpTo(most, sign);
            if (digit == NONE) {
                return false;
            }
            number = digit;
            step = next;
            return true;
        }

        private boolean takesMoreOfValue(char sign) {
            int digit = digitUpTo(9, sign);
            if (digit == NONE) {
                return takesSign(sign, ';', AT_LETTER);
            }
            // a 0 that is followed by a digit would be a leading zero
            if (number == 0 || 10 * number + digit > VALUE_MAX) {
                return false;
            }
            number = 10 * number + digit;
            return true;
        }

        private static int digitUpTo(int most, char sign) {
            int digit = sign - '0';
            return digit >= 0 && digit <= most ? digit : NONE;
        }
    }
}
