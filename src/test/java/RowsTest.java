/** Promises 15 to 20: read, value, untold, disagreements, disagreement, soundShare. */
public final class RowsTest {
    private static final Check CHECK = new Check();

    public static void main(String[] args) {
        readAndValue();
        untold();
        disagreements();
        sixteenDisagreements();
        soundShare();
        refused();
        CHECK.end();
    }

    private static void readAndValue() {
        MirrorCards x = new MirrorCards();
        CHECK.same("read of a blank row", -1, x.read(0, 0));
        CHECK.same("value of a blank row", -1, x.value(0, 0));
        x.punch(0, 0, 127);
        x.punch(0, 6, 0);
        x.punch(0, 3, 77);
        CHECK.same("read of 127", 127, x.read(0, 0));
        CHECK.same("value of 127", 127, x.value(0, 0));
        CHECK.same("read of 0", 0, x.read(0, 6));
        CHECK.same("value of 0", 0, x.value(0, 6));
        Check.blankOut(x, 0, 3, 7);
        CHECK.same("read needs no check cell", 77, x.read(0, 3));
        CHECK.same("value without check cell", 77, x.value(0, 3));
        Check.blankOut(x, 0, 0, 6);
        CHECK.same("read with a blank cell", -1, x.read(0, 0));
        CHECK.same("value with a told cell", 127, x.value(0, 0));
        Check.blankOut(x, 0, 0, 7);
        CHECK.same("value without the check cell", -1, x.value(0, 0));
        x.turn(0, 2);
        x.wear(0, 3, 7);
        x.turn(0, 3);
        CHECK.same("read with a wide cell", -1, x.read(0, 3));
        CHECK.same("read in another view", 0, x.read(0, 6));
        CHECK.same("value in another view", 0, x.value(0, 6));
        CHECK.same("read of another card", -1, x.read(1, 6));

        MirrorCards y = new MirrorCards();
        y.punch(0, 0, 127);
        y.lose(0, 0, 0);
        y.turn(0, 2);
        y.wear(0, 0, 7);
        CHECK.same("read of a wrong bit", 63, y.read(0, 0));
        CHECK.same("value of a wrong bit", 63, y.value(0, 0));
    }

    private static void untold() {
        MirrorCards x = new MirrorCards();
        CHECK.same("untold of a new card", 64, x.untold(2));
        x.punch(2, 0, 5);
        CHECK.same("untold with one row", 56, x.untold(2));
        Check.blankOut(x, 2, 0, 1);
        CHECK.same("untold with one cell less", 56, x.untold(2));
        Check.blankOut(x, 2, 0, 2);
        CHECK.same("untold with two cells less", 58, x.untold(2));
        CHECK.same("untold of another card", 64, x.untold(1));

        // seven rows tell the eighth by the columns
        MirrorCards y = new MirrorCards();
        for (int row = 0; row < 7; row++) {
            y.punch(0, row, row);
        }
        CHECK.same("untold before close", 0, y.untold(0));
        CHECK.same("disagreements before close", 0, y.disagreements(0));
    }

    private static void disagreements() {
        MirrorCards x = new MirrorCards();
        CHECK.same("disagreements of a new card", 0, x.disagreements(0));
        Check.punchAll(x, 0);
        CHECK.same("disagreements of a closed card", 0, x.disagreements(0));
        CHECK.same("disagreement(0, 0)", -1, x.disagreement(0, 0));
        // the zero (6, 1) becomes a one, and later the one (0, 1) a zero
        Check.blankOut(x, 0, 6, 1);
        x.wear(0, 6, 1);
        CHECK.same("disagreements", 2, x.disagreements(0));
        CHECK.same("disagreement(0, 0)", 6, x.disagreement(0, 0));
        CHECK.same("disagreement(0, 1)", 9, x.disagreement(0, 1));
        CHECK.same("disagreement(0, 2)", -1, x.disagreement(0, 2));
        CHECK.same("disagreement(0, max)", -1, x.disagreement(0, Integer.MAX_VALUE));
        Check.blankOut(x, 0, 0, 1);
        x.turn(0, 2);
        x.wear(0, 0, 6);
        CHECK.same("two wrong cells of a column", 2, x.disagreements(0));
        CHECK.same("disagreement(0, 0)", 0, x.disagreement(0, 0));
        CHECK.same("disagreement(0, 1)", 6, x.disagreement(0, 1));

        // a line with an untold cell does not disagree
        MirrorCards y = new MirrorCards();
        y.punch(1, 2, 1);
        y.lose(1, 2, 7);
        CHECK.same("a told check cell", 0, y.disagreements(1));
        y.turn(1, 2);
        y.wear(1, 2, 0);
        CHECK.same("a wrong check cell", 1, y.disagreements(1));
        CHECK.same("its row", 2, y.disagreement(1, 0));
        y.turn(1, 0);
        Check.blankOut(y, 1, 2, 0);
        CHECK.same("a told cell agrees", 0, y.disagreements(1));
        Check.blankOut(y, 1, 2, 1);
        CHECK.same("two untold cells", 0, y.disagreements(1));
    }

    private static void sixteenDisagreements() {
        MirrorCards x = new MirrorCards();
        for (int row = 0; row < 7; row++) {
            x.punch(2, row, 0);
        }
        x.close(2);
        for (int i = 0; i < 8; i++) {
            Check.blankOut(x, 2, i, (3 * i) % 8);
            x.wear(2, i, (3 * i) % 8);
        }
        CHECK.same("disagreements", 16, x.disagreements(2));
        for (int line = 0; line < 16; line++) {
            CHECK.same("disagreement(2, " + line + ")", line, x.disagreement(2, line));
        }
        CHECK.same("disagreement(2, 16)", -1, x.disagreement(2, 16));
    }

    private static void soundShare() {
        MirrorCards x = new MirrorCards();
        CHECK.isTrue("no cell is sound", x.soundShare(0) == 0.0);
        x.punch(0, 0, 77);
        CHECK.isTrue("8 cells are sound", x.soundShare(0) == 0.125);
        x.lose(0, 0, 0);
        CHECK.isTrue("7 cells are sound", x.soundShare(0) == 0.109375);
        x.turn(0, 2);
        x.wear(0, 0, 4);
        CHECK.isTrue("6 cells are sound", x.soundShare(0) == 0.09375);
        Check.punchAll(x, 1);
        CHECK.isTrue("all cells are sound", x.soundShare(1) == 1.0);
    }

    private static void refused() {
        MirrorCards x = new MirrorCards();
        x.punch(0, 0, 1);
        for (int card : new int[] {-1, 3, Integer.MIN_VALUE, Integer.MAX_VALUE}) {
            CHECK.refused(x, "read(" + card + ", 0)", Check.INDEX, () -> x.read(card, 0));
            CHECK.refused(x, "value(" + card + ", 0)", Check.INDEX, () -> x.value(card, 0));
            CHECK.refused(x, "untold(" + card + ")", Check.INDEX, () -> x.untold(card));
            CHECK.refused(x, "disagreements(" + card + ")", Check.INDEX, () -> x.disagreements(card));
            CHECK.refused(x, "disagreement(" + card + ", 0)", Check.INDEX, () -> x.disagreement(card, 0));
            CHECK.refused(x, "soundShare(" + card + ")", Check.INDEX, () -> x.soundShare(card));
        }
        for (int row : new int[] {-1, 7, 8, Integer.MIN_VALUE, Integer.MAX_VALUE}) {
            CHECK.refused(x, "read(0, " + row + ")", Check.INDEX, () -> x.read(0, row));
            CHECK.refused(x, "value(0, " + row + ")", Check.INDEX, () -> x.value(0, row));
        }
        CHECK.refused(x, "disagreement(0, -1)", Check.INDEX, () -> x.disagreement(0, -1));
        CHECK.refused(x, "disagreement(3, -1)", Check.INDEX, () -> x.disagreement(3, -1));
    }
}
