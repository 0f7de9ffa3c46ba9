/** Promises 1 to 5: a new object, punch, close, renew, copy. */
public final class PunchingTest {
    private static final Check CHECK = new Check();

    public static void main(String[] args) {
        newObject();
        punch();
        punchRefused();
        close();
        closeOfAWrongRow();
        closeRefused();
        renew();
        copy();
        copyRefused();
        CHECK.end();
    }

    private static void newObject() {
        MirrorCards x = new MirrorCards();
        CHECK.same("NONE", -1, MirrorCards.NONE);
        for (int card = 0; card < 3; card++) {
            CHECK.same("blank cells of a new card", 64, x.count(card, 2));
            CHECK.same("view of a new card", 0, x.view(card));
            CHECK.same("untold cells of a new card", 64, x.untold(card));
        }
        CHECK.same("saved states of a new object", 0, x.savedStates());
        CHECK.same("text of a new object", 0, x.clearText());
        CHECK.same("digest of a new object", 183147228821064745L, x.digest());
    }

    private static void punch() {
        MirrorCards x = new MirrorCards();
        CHECK.same("punch(0, 2, 77)", 0, x.punch(0, 2, 77));
        int[] cells = {1, 0, 0, 1, 1, 0, 1, 0};
        for (int column = 0; column < 8; column++) {
            CHECK.same("kind in column " + column, cells[column], x.kind(0, 2, column));
            CHECK.same("kind in the next row", 2, x.kind(0, 3, column));
        }
        CHECK.same("punch(0, 0, 0)", 0, x.punch(0, 0, 0));
        CHECK.same("punch(0, 6, 127)", 1, x.punch(0, 6, 127));
        CHECK.same("check cell of 127", 1, x.kind(0, 6, 7));
        CHECK.same("check cell of 0", 0, x.kind(0, 0, 7));
        CHECK.same("punch(2, 6, 64)", 1, x.punch(2, 6, 64));
        CHECK.same("read(2, 6)", 64, x.read(2, 6));
        CHECK.same("savedStates", 4, x.savedStates());
        CHECK.same("blank cells of the card 1", 64, x.count(1, 2));
    }

    private static void punchRefused() {
        MirrorCards x = new MirrorCards();
        x.punch(0, 1, 5);
        CHECK.refused(x, "punch(3, 0, 0)", Check.INDEX, () -> x.punch(3, 0, 0));
        CHECK.refused(x, "punch(-1, 0, 0)", Check.INDEX, () -> x.punch(-1, 0, 0));
        CHECK.refused(x, "punch(0, 7, 0)", Check.INDEX, () -> x.punch(0, 7, 0));
        CHECK.refused(x, "punch(0, -1, 0)", Check.INDEX, () -> x.punch(0, -1, 0));
        CHECK.refused(x, "punch(0, 7, 128)", Check.INDEX, () -> x.punch(0, 7, 128));
        CHECK.refused(x, "punch(0, 0, 128)", Check.ARGUMENT, () -> x.punch(0, 0, 128));
        CHECK.refused(x, "punch(0, 0, -1)", Check.ARGUMENT, () -> x.punch(0, 0, -1));
        CHECK.refused(x, "punch(0, 1, 128)", Check.ARGUMENT, () -> x.punch(0, 1, 128));
        CHECK.refused(x, "punch(0, 1, 5)", Check.STATE, () -> x.punch(0, 1, 5));
        CHECK.refused(x, "punch(min)", Check.INDEX, () -> x.punch(Integer.MIN_VALUE, Integer.MIN_VALUE, 0));
        CHECK.refused(x, "punch(max)", Check.INDEX, () -> x.punch(Integer.MAX_VALUE, 0, 0));
        // the check cell alone, and a hole in the back alone, are in the way as well
        x.wear(1, 3, 7);
        CHECK.refused(x, "punch over a check cell", Check.STATE, () -> x.punch(1, 3, 0));
        x.turn(2, 2);
        x.wear(2, 4, 0);
        CHECK.refused(x, "punch over a hole in the back", Check.STATE, () -> x.punch(2, 4, 0));
        CHECK.same("punch the row above", 0, x.punch(2, 3, 3));
    }

    private static void close() {
        MirrorCards x = new MirrorCards();
        for (int row = 0; row < 7; row++) {
            x.punch(1, row, Check.VALUES[row]);
        }
        CHECK.same("close(1)", 2, x.close(1));
        int[] checks = {0, 1, 0, 0, 0, 1, 0, 0};
        for (int column = 0; column < 8; column++) {
            CHECK.same("check row, column " + column, checks[column], x.kind(1, 7, column));
        }
        for (int row = 0; row < 7; row++) {
            CHECK.same("row " + row + " after close", Check.VALUES[row], x.read(1, row));
        }
        CHECK.same("wide cells after close", 0, x.count(1, 3));
        CHECK.same("savedStates", 6, x.savedStates());
        MirrorCards y = new MirrorCards();
        for (int row = 0; row < 7; row++) {
            y.punch(1, row, 1 << row);
        }
        CHECK.same("close of single bits", 8, y.close(1));
        MirrorCards z = new MirrorCards();
        for (int row = 0; row < 7; row++) {
            z.punch(2, row, 0);
        }
        CHECK.same("close of zeros", 0, z.close(2));
        CHECK.same("zeros", 64, z.count(2, 0));
    }

    /** A row that disagrees is sound, and each check cell is by its own column alone. */
    private static void closeOfAWrongRow() {
        MirrorCards x = new MirrorCards();
        for (int row = 0; row < 7; row++) {
            x.punch(0, row, 0);
        }
        Check.blankOut(x, 0, 3, 2);
        x.wear(0, 3, 2);
        CHECK.same("close with a single one", 1, x.close(0));
        for (int column = 0; column < 8; column++) {
            CHECK.same("check row, column " + column, column == 2 ? 1 : 0, x.kind(0, 7, column));
        }
        CHECK.same("disagreements", 2, x.disagreements(0));
        CHECK.same("the wrong row", 3, x.disagreement(0, 0));
        CHECK.same("the check row", 7, x.disagreement(0, 1));
    }

    private static void closeRefused() {
        MirrorCards x = new MirrorCards();
        CHECK.refused(x, "close(3)", Check.INDEX, () -> x.close(3));
        CHECK.refused(x, "close(-1)", Check.INDEX, () -> x.close(-1));
        CHECK.refused(x, "close of a blank card", Check.STATE, () -> x.close(0));
        Check.punchAll(x, 0);
        CHECK.refused(x, "close of a closed card", Check.STATE, () -> x.close(0));

        MirrorCards y = new MirrorCards();
        for (int row = 0; row < 6; row++) {
            y.punch(0, row, 127);
        }
        CHECK.refused(y, "close with a blank row", Check.STATE, () -> y.close(0));
        y.punch(0, 6, 127);
        y.lose(0, 3, 7);
        CHECK.refused(y, "close with a blank check cell", Check.STATE, () -> y.close(0));
        y.wear(0, 3, 7);
        y.turn(0, 2);
        y.wear(0, 3, 0);
        CHECK.refused(y, "close with a wide check cell", Check.STATE, () -> y.close(0));
        y.lose(0, 3, 0);
        y.wear(0, 7, 4);
        CHECK.refused(y, "close with a hole in the check row", Check.STATE, () -> y.close(0));
        y.lose(0, 7, 4);
        CHECK.same("close when all is mended", 8, y.close(0));
    }

    private static void renew() {
        MirrorCards x = new MirrorCards();
        CHECK.same("renew of a new card", 0, x.renew(0));
        CHECK.same("savedStates", 1, x.savedStates());
        x.punch(0, 0, 3);
        x.punch(1, 0, 3);
        x.turn(0, 3);
        x.wear(0, 7, 6);
        CHECK.same("renew with a wide cell", 9, x.renew(0));
        CHECK.same("blank cells", 64, x.count(0, 2));
        CHECK.same("view", 0, x.view(0));
        CHECK.same("the other card", 3, x.read(1, 0));
        CHECK.refused(x, "renew(3)", Check.INDEX, () -> x.renew(3));
        CHECK.refused(x, "renew(-1)", Check.INDEX, () -> x.renew(-1));
    }

    private static void copy() {
        MirrorCards x = new MirrorCards();
        Check.punchAll(x, 0);
        Check.blankOut(x, 0, 2, 2);
        x.punch(2, 5, 9);
        x.turn(2, 1);
        x.turn(0, 3);
        CHECK.same("copy of a card that is told", 0, x.copy(0, 2));
        CHECK.same("view of the copy", 0, x.view(2));
        CHECK.same("view of the original", 3, x.view(0));
        CHECK.same("cell that was told again", 1, x.kind(2, 2, 2));
        CHECK.same("cell of the original", 2, x.kind(0, 2, 2));
        CHECK.same("check row of the copy", 1, x.kind(2, 7, 1));
        CHECK.same("read(2, 5)", 1, x.read(2, 5));

        MirrorCards y = new MirrorCards();
        y.punch(1, 0, 127);
        y.punch(1, 1, 0);
        Check.blankOut(y, 1, 0, 0);
        Check.blankOut(y, 1, 0, 1);
        y.punch(0, 4, 4);
        y.turn(0, 2);
        int saved = y.savedStates();
        CHECK.same("savedStates before", 6, saved);
        CHECK.same("copy of a card that is not told", 50, y.copy(1, 0));
        CHECK.same("cell that is not told", 2, y.kind(0, 0, 1));
        CHECK.same("cell that is told", 1, y.kind(0, 0, 2));
        CHECK.same("what was there is gone", 2, y.kind(0, 4, 4));
        y.undo();
        CHECK.same("undo of the copy", 4, y.read(0, 4));
        CHECK.same("undo of the copy, view", 2, y.view(0));
    }

    private static void copyRefused() {
        MirrorCards x = new MirrorCards();
        x.punch(0, 0, 1);
        CHECK.refused(x, "copy(3, 0)", Check.INDEX, () -> x.copy(3, 0));
        CHECK.refused(x, "copy(0, 3)", Check.INDEX, () -> x.copy(0, 3));
        CHECK.refused(x, "copy(-1, 0)", Check.INDEX, () -> x.copy(-1, 0));
        CHECK.refused(x, "copy(3, 3)", Check.INDEX, () -> x.copy(3, 3));
        CHECK.refused(x, "copy(0, 0)", Check.ARGUMENT, () -> x.copy(0, 0));
    }
}
