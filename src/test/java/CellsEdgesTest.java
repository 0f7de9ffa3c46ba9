/** The boundary cases that the document names for kind, told and count, one by one. */
public final class CellsEdgesTest {
    private static final Check CHECK = new Check();

    public static void main(String[] args) {
        eachKindAtTheCorners();
        kindsStayInEachView();
        countOfNoneAndAll();
        soundCellsAreToldAtFirst();
        eachLineWithEachNumberOfOnes();
        twoUntoldCellsOfALine();
        linesThatDoNotFit();
        rowsBeforeColumns();
        toldCellsCountAtOnce();
        aLongChain();
        theLastLinesTell();
        CHECK.end();
    }

    private static final int[] CORNERS = {0, 7, 56, 63};

    private static void eachKindAtTheCorners() {
        for (int corner : CORNERS) {
            for (int kind = 0; kind < 4; kind++) {
                MirrorCards x = new MirrorCards();
                Check.makeKind(x, 2, corner / 8, corner % 8, kind);
                for (int cell = 0; cell < 64; cell++) {
                    CHECK.same("kind at " + cell, cell == corner ? kind : 2, x.kind(2, cell / 8, cell % 8));
                    CHECK.same("told at " + cell, cell == corner && kind < 2 ? kind : -1,
                            x.told(2, cell / 8, cell % 8));
                }
            }
        }
    }

    /** "as seen from the front, the right way up". */
    private static void kindsStayInEachView() {
        MirrorCards x = new MirrorCards();
        for (int kind = 0; kind < 4; kind++) {
            Check.makeKind(x, 0, kind, 5, kind);
        }
        for (int view = 0; view < 4; view++) {
            x.turn(0, view);
            for (int kind = 0; kind < 4; kind++) {
                CHECK.same("kind in the view " + view, kind, x.kind(0, kind, 5));
                CHECK.same("told in the view " + view, kind < 2 ? kind : -1, x.told(0, kind, 5));
                CHECK.same("count in the view " + view, kind == 2 ? 61 : 1, x.count(0, kind));
            }
        }
    }

    private static void countOfNoneAndAll() {
        MirrorCards x = new MirrorCards();
        counts(x, 0, "blank cells", new int[] {0, 0, 64, 0});
        Check.punchEach(x, 0, 127);
        counts(x, 0, "ones", new int[] {0, 64, 0, 0});
        Check.punchEach(x, 1, 0);
        counts(x, 1, "zeros", new int[] {64, 0, 0, 0});
        for (int cell = 0; cell < 64; cell++) {
            x.wear(1, cell / 8, cell % 8);
        }
        counts(x, 1, "wide cells", new int[] {0, 0, 0, 64});
        counts(x, 2, "another card", new int[] {0, 0, 64, 0});
    }

    private static void counts(MirrorCards x, int card, String what, int[] due) {
        for (int kind = 0; kind < 4; kind++) {
            CHECK.same("count of the kind " + kind + ", " + what, due[kind], x.count(card, kind));
        }
    }

    /** "each sound cell is told, with its bit"; blank and wide cells are not. */
    private static void soundCellsAreToldAtFirst() {
        for (int cell = 0; cell < 64; cell++) {
            for (int kind = 0; kind < 4; kind++) {
                MirrorCards x = new MirrorCards();
                Check.makeKind(x, 0, cell / 8, cell % 8, kind);
                CHECK.same("told of the kind " + kind, kind < 2 ? kind : -1, x.told(0, cell / 8, cell % 8));
                CHECK.same("untold", kind < 2 ? 63 : 64, x.untold(0));
            }
        }
    }

    private static int rowOf(int line, int place) {
        return line < 8 ? line : place;
    }

    private static int columnOf(int line, int place) {
        return line < 8 ? place : line - 8;
    }

    private static void putOn(MirrorCards x, int line, int place, int kind) {
        Check.makeKind(x, 0, rowOf(line, place), columnOf(line, place), kind);
    }

    private static int toldOn(MirrorCards x, int line, int place) {
        return x.told(0, rowOf(line, place), columnOf(line, place));
    }

    /**
     * "if just one of the eight cells of a line is not told, it is told: its bit is 1 if the number of
     * ones among the other seven is odd, otherwise 0": each line, each place, 0 to 7 ones.
     */
    private static void eachLineWithEachNumberOfOnes() {
        for (int line = 0; line < 16; line++) {
            for (int place = 0; place < 8; place++) {
                for (int ones = 0; ones <= 7; ones++) {
                    MirrorCards x = new MirrorCards();
                    for (int i = 1; i <= 7; i++) {
                        putOn(x, line, (place + i) % 8, i <= ones ? 1 : 0);
                    }
                    String what = "line " + line + ", place " + place + ", ones " + ones;
                    CHECK.same("told of a blank cell, " + what, ones % 2, toldOn(x, line, place));
                    putOn(x, line, place, 3);
                    CHECK.same("told of a wide cell, " + what, ones % 2, toldOn(x, line, place));
                    CHECK.same("untold, " + what, 56, x.untold(0));
                    CHECK.same("disagreements, " + what, 0, x.disagreements(0));
                }
            }
        }
    }

    /** One more cell that is not told, and none of both is. */
    private static void twoUntoldCellsOfALine() {
        for (int line = 0; line < 16; line++) {
            for (int one = 0; one < 8; one++) {
                for (int two = 0; two < one; two++) {
                    MirrorCards x = new MirrorCards();
                    for (int place = 0; place < 8; place++) {
                        putOn(x, line, place, place == one ? 2 : place == two ? 3 : place % 2);
                    }
                    String what = "line " + line + ", places " + two + " and " + one;
                    CHECK.same("told, " + what, -1, toldOn(x, line, one));
                    CHECK.same("told, " + what, -1, toldOn(x, line, two));
                    CHECK.same("untold, " + what, 58, x.untold(0));
                }
            }
        }
    }

    /** "Whether the told cells of a line without an untold cell fit together does not matter for this." */
    private static void linesThatDoNotFit() {
        MirrorCards x = new MirrorCards();
        for (int row = 1; row < 8; row++) {
            for (int column = 0; column < 8; column++) {
                Check.makeKind(x, 1, row, column, row == 7 ? 1 : 0);
            }
        }
        Check.makeKind(x, 1, 3, 5, 1);
        // the row 3 has a single one, and stays as it is; the columns tell the row 0
        for (int column = 0; column < 8; column++) {
            CHECK.same("told in the row 0", column == 5 ? 0 : 1, x.told(1, 0, column));
            CHECK.same("told in the row 3", column == 5 ? 1 : 0, x.told(1, 3, column));
        }
        CHECK.same("untold", 0, x.untold(1));
        CHECK.same("disagreements", 2, x.disagreements(1));
        CHECK.same("the first", 0, x.disagreement(1, 0));
        CHECK.same("the second", 3, x.disagreement(1, 1));
    }

    /** "the rows 0 to 7 and then the columns 0 to 7": a cell that both could tell gets the bit of its row. */
    private static void rowsBeforeColumns() {
        for (int cell = 0; cell < 64; cell++) {
            MirrorCards x = new MirrorCards();
            Check.punchEach(x, 0, 0);
            Check.makeKind(x, 0, cell / 8, cell % 8, 2);
            Check.makeKind(x, 0, cell / 8, (cell + 1) % 8, 1);
            CHECK.same("a one in the row of " + cell, 1, x.told(0, cell / 8, cell % 8));
            Check.makeKind(x, 0, cell / 8, (cell + 1) % 8, 0);
            Check.makeKind(x, 0, (cell / 8 + 1) % 8, cell % 8, 1);
            CHECK.same("a one in the column of " + cell, 0, x.told(0, cell / 8, cell % 8));
        }
    }

    /** "A cell that is told counts at once for the lines that come next": a row for a column, a column for a row. */
    private static void toldCellsCountAtOnce() {
        MirrorCards x = new MirrorCards();
        Check.punchEach(x, 0, 0);
        // the row 1 has a one, and would tell (1, 0) to be one, if the column 0 had to wait for (0, 0)
        Check.makeKind(x, 0, 1, 2, 1);
        Check.makeKind(x, 0, 0, 0, 2);
        Check.makeKind(x, 0, 1, 0, 2);
        Check.makeKind(x, 0, 1, 1, 2);
        CHECK.same("told by the column", 0, x.told(0, 1, 0));
        CHECK.same("told by the column", 0, x.told(0, 1, 1));
        CHECK.same("untold", 0, x.untold(0));

        // columns come after all rows: (2, 3) is told by the column 3 first, then (2, 4) by the row 2
        MirrorCards y = new MirrorCards();
        Check.makeKind(y, 0, 2, 3, 2);
        for (int place = 0; place < 8; place++) {
            if (place != 3 && place != 4) {
                Check.makeKind(y, 0, 2, place, 0);
            }
            if (place != 2) {
                Check.makeKind(y, 0, place, 3, place == 7 ? 1 : 0);
            }
        }
        CHECK.same("told by the column", 1, y.told(0, 2, 3));
        CHECK.same("told by the row, with what the column told", 1, y.told(0, 2, 4));
        CHECK.same("untold", 64 - 15, y.untold(0));
    }

    /**
     * "repeated as long as it tells a cell": the untold cells are a path from the row 7 to the column 0,
     * of which each round tells a few at its ends.
     */
    private static void aLongChain() {
        MirrorCards x = new MirrorCards();
        Check.punchAll(x, 2);
        int[] due = new int[64];
        for (int cell = 0; cell < 64; cell++) {
            due[cell] = x.kind(2, cell / 8, cell % 8);
        }
        for (int line = 0; line < 8; line++) {
            Check.makeKind(x, 2, line, line, line % 2 == 0 ? 2 : 3);
            if (line < 7) {
                Check.makeKind(x, 2, line, line + 1, 2);
            }
        }
        CHECK.same("blank and wide cells", 15, x.count(2, 2) + x.count(2, 3));
        CHECK.same("untold", 0, x.untold(2));
        for (int cell = 0; cell < 64; cell++) {
            CHECK.same("told at " + cell, due[cell], x.told(2, cell / 8, cell % 8));
        }
        // one cell more closes the path to a ring, of which nothing is told
        Check.makeKind(x, 2, 7, 0, 2);
        CHECK.same("untold in a ring", 16, x.untold(2));
        CHECK.same("told in a ring", -1, x.told(2, 7, 0));
    }

    /** The last line in the order, column 7, tells; what it tells is enough for the first one, row 0. */
    private static void theLastLinesTell() {
        MirrorCards x = new MirrorCards();
        Check.punchEach(x, 1, 127);
        Check.makeKind(x, 1, 0, 7, 2);
        Check.makeKind(x, 1, 0, 3, 2);
        Check.makeKind(x, 1, 5, 3, 3);
        Check.makeKind(x, 1, 5, 4, 3);
        Check.makeKind(x, 1, 6, 4, 2);
        Check.makeKind(x, 1, 6, 5, 2);
        Check.makeKind(x, 1, 7, 5, 2);
        Check.makeKind(x, 1, 7, 6, 2);
        Check.makeKind(x, 1, 4, 6, 2);
        Check.makeKind(x, 1, 4, 0, 2);
        CHECK.same("untold", 0, x.untold(1));
        CHECK.same("told by the column 7", 1, x.told(1, 0, 7));
        CHECK.same("told by the row 0", 1, x.told(1, 0, 3));
        Check.makeKind(x, 1, 2, 7, 2);
        Check.makeKind(x, 1, 2, 0, 2);
        CHECK.same("untold when the path is a ring", 12, x.untold(1));
    }
}
