/** Promises 12 to 14: kind, told, count. */
public final class CellsTest {
    private static final Check CHECK = new Check();

    public static void main(String[] args) {
        kindAndCount();
        told();
        toldByRowsFirst();
        toldCountsAtOnce();
        toldNeedsSevenOthers();
        refused();
        CHECK.end();
    }

    private static void kindAndCount() {
        MirrorCards x = new MirrorCards();
        x.punch(0, 3, 96);
        x.turn(0, 2);
        x.wear(0, 3, 7);
        x.wear(0, 3, 6);
        x.lose(0, 3, 0);
        x.turn(0, 1);
        int[] kinds = {3, 3, 0, 0, 0, 0, 0, 2};
        for (int column = 0; column < 8; column++) {
            CHECK.same("kind(0, 3, " + column + ")", kinds[column], x.kind(0, 3, column));
        }
        x.punch(0, 0, 127);
        int[] counts = {5, 8, 49, 2};
        for (int kind = 0; kind < 4; kind++) {
            CHECK.same("count(0, " + kind + ")", counts[kind], x.count(0, kind));
        }
        CHECK.same("count(1, 2)", 64, x.count(1, 2));
        CHECK.same("savedStates", 6, x.savedStates());
    }

    private static void told() {
        MirrorCards x = new MirrorCards();
        CHECK.same("told of a blank card", -1, x.told(0, 0, 0));
        x.punch(0, 3, 96);
        CHECK.same("told of a one", 1, x.told(0, 3, 0));
        CHECK.same("told of a zero", 0, x.told(0, 3, 6));
        x.turn(0, 2);
        x.wear(0, 3, 7);
        CHECK.same("told of a wide cell", 1, x.told(0, 3, 0));
        x.wear(0, 3, 6);
        CHECK.same("told of one of two wide cells", -1, x.told(0, 3, 0));
        CHECK.same("told of the other", -1, x.told(0, 3, 1));
        CHECK.same("told of the cell of another card", -1, x.told(1, 3, 2));
        x.turn(0, 1);
        CHECK.same("told in another view", 0, x.told(0, 3, 7));

        // a square but for one corner: a column tells what its row can't
        MirrorCards y = new MirrorCards();
        Check.punchAll(y, 0);
        Check.blankOut(y, 0, 2, 2);
        Check.blankOut(y, 0, 2, 3);
        Check.blankOut(y, 0, 3, 2);
        CHECK.same("told(0, 2, 2)", 1, y.told(0, 2, 2));
        CHECK.same("told(0, 2, 3)", 0, y.told(0, 2, 3));
        CHECK.same("told(0, 3, 2)", 0, y.told(0, 3, 2));
        Check.blankOut(y, 0, 3, 3);
        CHECK.same("told in a whole square", -1, y.told(0, 2, 2));
        CHECK.same("untold", 4, y.untold(0));
    }

    /** A cell whose row and column would tell different bits gets the bit of the row. */
    private static void toldByRowsFirst() {
        MirrorCards x = new MirrorCards();
        Check.punchAll(x, 0);
        // (1, 0) becomes a one, against the row 1 and the column 0
        Check.blankOut(x, 0, 1, 0);
        x.wear(0, 1, 0);
        Check.blankOut(x, 0, 1, 4);
        CHECK.same("told by the row", 1, x.told(0, 1, 4));
        CHECK.same("disagreements", 2, x.disagreements(0));
        CHECK.same("first", 8, x.disagreement(0, 0));
        CHECK.same("second", 12, x.disagreement(0, 1));
        // where the row has two such cells, the columns tell them
        Check.blankOut(x, 0, 1, 5);
        CHECK.same("told by the column", 0, x.told(0, 1, 4));
        CHECK.same("told by the column", 0, x.told(0, 1, 5));
        CHECK.same("first", 1, x.disagreement(0, 0));
        CHECK.same("second", 8, x.disagreement(0, 1));
    }

    /**
     * The row 0 tells (0, 0); then the column 0 tells (1, 0), before the row 1 could, which would
     * tell it otherwise.
     */
    private static void toldCountsAtOnce() {
        MirrorCards x = new MirrorCards();
        Check.punchAll(x, 0);
        Check.blankOut(x, 0, 1, 2);
        x.wear(0, 1, 2);
        Check.blankOut(x, 0, 0, 0);
        Check.blankOut(x, 0, 1, 0);
        Check.blankOut(x, 0, 1, 1);
        CHECK.same("told(0, 0, 0)", 1, x.told(0, 0, 0));
        CHECK.same("told(0, 1, 0)", 0, x.told(0, 1, 0));
        CHECK.same("told(0, 1, 1)", 0, x.told(0, 1, 1));
        CHECK.same("first", 1, x.disagreement(0, 0));
        CHECK.same("second", 10, x.disagreement(0, 1));
    }

    private static void toldNeedsSevenOthers() {
        MirrorCards x = new MirrorCards();
        for (int column = 0; column < 7; column++) {
            CHECK.same("nothing is told in column 7 yet", -1, x.told(2, 7, 7));
            x.wear(2, 7, column);
        }
        CHECK.same("seven ones tell a one", 1, x.told(2, 7, 7));
        x.lose(2, 7, 0);
        x.turn(2, 2);
        x.wear(2, 7, 7);
        CHECK.same("six ones and a zero tell a zero", 0, x.told(2, 7, 7));
        CHECK.same("kind stays", 2, x.kind(2, 7, 7));
    }

    private static void refused() {
        MirrorCards x = new MirrorCards();
        x.punch(0, 0, 1);
        int[][] outside = {{3, 0, 0}, {-1, 0, 0}, {0, 8, 0}, {0, -1, 0}, {0, 0, 8}, {0, 0, -1}};
        for (int[] at : outside) {
            String where = "(" + at[0] + ", " + at[1] + ", " + at[2] + ")";
            CHECK.refused(x, "kind" + where, Check.INDEX, () -> x.kind(at[0], at[1], at[2]));
            CHECK.refused(x, "told" + where, Check.INDEX, () -> x.told(at[0], at[1], at[2]));
        }
        CHECK.refused(x, "count(3, 0)", Check.INDEX, () -> x.count(3, 0));
        CHECK.refused(x, "count(-1, 0)", Check.INDEX, () -> x.count(-1, 0));
        CHECK.refused(x, "count(0, 4)", Check.INDEX, () -> x.count(0, 4));
        CHECK.refused(x, "count(0, -1)", Check.INDEX, () -> x.count(0, -1));
    }
}
