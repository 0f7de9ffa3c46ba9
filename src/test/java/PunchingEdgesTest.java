/** The boundary cases that the document names for a new object, punch, close, renew and copy, one by one. */
public final class PunchingEdgesTest {
    private static final Check CHECK = new Check();

    public static void main(String[] args) {
        noHolesAtFirst();
        eachValueInEachRow();
        eachColumnCounts();
        punchNeedsEachCellBlank();
        punchLooksAtItsRowAlone();
        closeWithEachNumberOfOnes();
        closeTakesTheCheckCellsAsTheyAre();
        closeNeedsEachCellSound();
        closeNeedsEachCheckCellBlank();
        renewOfNoHoleAndOfAll();
        renewInEachView();
        copyBetweenEachTwoCards();
        copyOfNothingAndOfAll();
        copyWipesTheOther();
        copyTakesToldBits();
        CHECK.end();
    }

    /** "There are three cards ... at first there are no holes", in the view 0, and no text, no saved state. */
    private static void noHolesAtFirst() {
        MirrorCards x = new MirrorCards();
        for (int card = 0; card < 3; card++) {
            for (int view = 0; view < 4; view++) {
                CHECK.same("the view at first", view == 0 ? 0 : view - 1, x.turn(card, view));
                for (int row = 0; row < 8; row++) {
                    CHECK.same("a raw row of a new card", 0, x.raw(card, row));
                }
            }
            CHECK.same("holes of a new card", 0, x.renew(card));
        }
        MirrorCards y = new MirrorCards();
        CHECK.same("saved states of a new object", 0, y.savedStates());
        CHECK.same("text of a new object", 0, y.clearText());
    }

    /** "a value from 0 to 127"; "the bit 1 if the number of ones among these is odd, otherwise 0". */
    private static void eachValueInEachRow() {
        for (int value = 0; value <= 127; value++) {
            MirrorCards x = new MirrorCards();
            for (int row = 0; row <= 6; row++) {
                punchesWell(x, value % 3, row, value);
            }
        }
    }

    private static void punchesWell(MirrorCards x, int card, int row, int value) {
        String what = "punch(" + card + ", " + row + ", " + value + ")";
        int ones = 0;
        for (int rest = value; rest > 0; rest /= 2) {
            ones += rest % 2;
        }
        CHECK.same(what, ones % 2, x.punch(card, row, value));
        CHECK.same(what + ", then the check cell", ones % 2, x.kind(card, row, 7));
        CHECK.same(what + ", then read", value, x.read(card, row));
        CHECK.same(what + ", then raw", 2 * value + ones % 2, x.raw(card, row));
        CHECK.same(what + ", then the cells with holes", 8 * (row + 1), 64 - x.count(card, 2));
        CHECK.same(what + ", then wide cells", 0, x.count(card, 3));
    }

    /** "the bit of column c counts 64 / (2 to the power c), so column 0 counts 64, and column 6 counts 1". */
    private static void eachColumnCounts() {
        int[] counts = {64, 32, 16, 8, 4, 2, 1};
        for (int column = 0; column < 7; column++) {
            MirrorCards x = new MirrorCards();
            x.punch(0, 3, counts[column]);
            for (int other = 0; other < 7; other++) {
                CHECK.same("kind of " + counts[column], other == column ? 1 : 0, x.kind(0, 3, other));
            }
            CHECK.same("check cell of " + counts[column], 1, x.kind(0, 3, 7));
        }
    }

    /** "possible only if all cells of the row are blank": each cell, each kind. */
    private static void punchNeedsEachCellBlank() {
        for (int row = 0; row <= 6; row++) {
            for (int column = 0; column <= 7; column++) {
                for (int kind : new int[] {0, 1, 3}) {
                    int r = row;
                    int c = column;
                    String what = "punch with the kind " + kind + " at " + row + ", " + column;
                    CHECK.refusedByTwin(what, Check.STATE, () -> withOneCell(r, c, kind), x -> x.punch(1, r, 5));
                    MirrorCards x = withOneCell(row, column, kind);
                    Check.makeKind(x, 1, row, column, 2);
                    CHECK.same(what + " made blank again", 0, x.punch(1, row, 5));
                }
            }
        }
    }

    private static MirrorCards withOneCell(int row, int column, int kind) {
        MirrorCards x = new MirrorCards();
        Check.makeKind(x, 1, row, column, kind);
        return x;
    }

    private static void punchLooksAtItsRowAlone() {
        for (int row = 0; row <= 6; row++) {
            MirrorCards x = new MirrorCards();
            Check.punchEach(x, 0, 127);
            Check.punchEach(x, 2, 0);
            for (int other = 0; other <= 7; other++) {
                for (int column = 0; column < 8 && other != row; column++) {
                    x.wear(1, other, column);
                }
            }
            CHECK.same("punch of the only blank row " + row, 1, x.punch(1, row, 127));
            CHECK.same("ones then", 64, x.count(1, 1));
        }
    }

    /** "the bit 1 if the number of ones among the rows 0 to 6 of this column is odd": 0 to 7 ones. */
    private static void closeWithEachNumberOfOnes() {
        for (int column = 0; column <= 6; column++) {
            for (int ones = 0; ones <= 7; ones++) {
                MirrorCards x = new MirrorCards();
                for (int row = 0; row < 7; row++) {
                    x.punch(2, row, row < ones ? 64 >> column : 0);
                }
                // the check column has a one in the same rows
                CHECK.same("close with " + ones + " ones in column " + column, 2 * (ones % 2), x.close(2));
                for (int check = 0; check <= 7; check++) {
                    int due = check == column || check == 7 ? ones % 2 : 0;
                    CHECK.same("check cell " + check, due, x.kind(2, 7, check));
                }
                CHECK.same("wide cells", 0, x.count(2, 3));
                CHECK.same("blank cells", 0, x.count(2, 2));
            }
        }
        MirrorCards y = new MirrorCards();
        for (int row = 0; row < 7; row++) {
            y.punch(2, row, 127);
        }
        CHECK.same("close of ones", 8, y.close(2));
    }

    /** The cell of row 7 in column 7 is by the rows 0 to 6 of column 7, also if a check cell is wrong. */
    private static void closeTakesTheCheckCellsAsTheyAre() {
        for (int wrong = 0; wrong <= 6; wrong++) {
            MirrorCards x = new MirrorCards();
            for (int row = 0; row < 7; row++) {
                x.punch(0, row, 0);
            }
            Check.makeKind(x, 0, wrong, 7, 1);
            CHECK.same("close with a wrong check cell in row " + wrong, 1, x.close(0));
            CHECK.same("its bit", 1, x.kind(0, 7, 7));
            CHECK.same("another bit", 0, x.kind(0, 7, 0));
        }
    }

    /** All is ready to be closed, but for one cell. */
    private static MirrorCards closableBut(int row, int column, int kind) {
        MirrorCards x = new MirrorCards();
        for (int each = 0; each < 7; each++) {
            x.punch(0, each, Check.VALUES[each]);
        }
        Check.makeKind(x, 0, row, column, kind);
        return x;
    }

    /** "possible only if all cells of the rows 0 to 6 are sound". */
    private static void closeNeedsEachCellSound() {
        for (int row = 0; row <= 6; row++) {
            for (int column = 0; column <= 7; column++) {
                int r = row;
                int c = column;
                for (int kind = 0; kind < 4; kind++) {
                    int k = kind;
                    String what = "close with the kind " + kind + " at " + row + ", " + column;
                    if (kind >= 2) {
                        CHECK.refusedByTwin(what, Check.STATE, () -> closableBut(r, c, k), x -> x.close(0));
                    } else {
                        MirrorCards x = closableBut(row, column, kind);
                        CHECK.same(what, Check.NOTHING, Check.thrownBy(() -> x.close(0)));
                    }
                }
            }
        }
    }

    /** "and all cells of row 7 are blank". */
    private static void closeNeedsEachCheckCellBlank() {
        for (int column = 0; column <= 7; column++) {
            int c = column;
            for (int kind : new int[] {0, 1, 3}) {
                CHECK.refusedByTwin("close with the kind " + kind + " in the check row, column " + column, Check.STATE,
                        () -> closableBut(7, c, kind), x -> x.close(0));
            }
            CHECK.same("close with a blank check row", 2, closableBut(7, column, 2).close(0));
        }
    }

    /** "Returns the number of holes that it had": a wide cell has two. */
    private static void renewOfNoHoleAndOfAll() {
        MirrorCards x = new MirrorCards();
        CHECK.same("renew without a hole", 0, x.renew(2));
        CHECK.same("savedStates, even if nothing changes", 1, x.savedStates());
        Check.punchEach(x, 2, 127);
        x.turn(2, 2);
        for (int cell = 0; cell < 64; cell++) {
            x.wear(2, cell / 8, cell % 8);
        }
        CHECK.same("wide cells", 64, x.count(2, 3));
        CHECK.same("renew with all holes", 128, x.renew(2));
        CHECK.same("blank cells", 64, x.count(2, 2));
        CHECK.same("renew again", 0, x.renew(2));
    }

    /** "Replaces a card by one without holes, in the view 0": each card, each view, that card alone. */
    private static void renewInEachView() {
        for (int card = 0; card < 3; card++) {
            for (int view = 0; view < 4; view++) {
                MirrorCards x = new MirrorCards();
                for (int each = 0; each < 3; each++) {
                    x.turn(each, view);
                    x.wear(each, 0, 0);
                }
                CHECK.same("renew in the view " + view, 1, x.renew(card));
                for (int each = 0; each < 3; each++) {
                    CHECK.same("view(" + each + ")", each == card ? 0 : view, x.view(each));
                    CHECK.same("blank cells of " + each, each == card ? 64 : 63, x.count(each, 2));
                }
            }
        }
    }

    private static void copyBetweenEachTwoCards() {
        for (int card = 0; card < 3; card++) {
            for (int other = 0; other < 3; other++) {
                MirrorCards x = new MirrorCards();
                for (int each = 0; each < 3; each++) {
                    x.punch(each, each, 10 + each);
                    x.turn(each, 3);
                }
                if (card == other) {
                    int same = card;
                    CHECK.refused(x, "copy onto itself", Check.ARGUMENT, () -> x.copy(same, same));
                    continue;
                }
                CHECK.same("copy(" + card + ", " + other + ")", 56, x.copy(card, other));
                for (int each = 0; each < 3; each++) {
                    int from = each == other ? card : each;
                    CHECK.same("read(" + each + ", " + from + ")", 10 + from, x.read(each, from));
                    CHECK.same("blank cells of " + each, 56, x.count(each, 2));
                    CHECK.same("view(" + each + ")", each == other ? 0 : 3, x.view(each));
                }
            }
        }
    }

    private static void copyOfNothingAndOfAll() {
        MirrorCards x = new MirrorCards();
        CHECK.same("copy of a blank card", 64, x.copy(0, 1));
        CHECK.same("savedStates, even if nothing changes", 1, x.savedStates());
        CHECK.same("blank cells", 64, x.count(1, 2));
        Check.punchAll(x, 0);
        CHECK.same("copy of a closed card", 0, x.copy(0, 1));
        CHECK.same("difference", 0, x.difference(0, 1));
        for (int column = 0; column < 8; column++) {
            CHECK.same("check row of the copy", x.kind(0, 7, column), x.kind(1, 7, column));
        }
    }

    /** "the other card is renewed": its holes, wide cells and view are gone, also where nothing is told. */
    private static void copyWipesTheOther() {
        MirrorCards x = new MirrorCards();
        for (int column = 0; column < 8; column++) {
            Check.makeKind(x, 2, 3, column, column % 4);
        }
        x.turn(2, 1);
        x.punch(0, 6, 127);
        CHECK.same("copy", 56, x.copy(0, 2));
        CHECK.same("view", 0, x.view(2));
        int[] counts = {0, 8, 56, 0};
        for (int kind = 0; kind < 4; kind++) {
            CHECK.same("cells of the kind " + kind, counts[kind], x.count(2, kind));
        }
    }

    /** "gets all told bits of the card"; "cells that are not told stay blank". */
    private static void copyTakesToldBits() {
        MirrorCards x = new MirrorCards();
        x.punch(1, 2, 127);
        x.punch(1, 3, 127);
        Check.makeKind(x, 1, 2, 0, 3);
        Check.makeKind(x, 1, 3, 0, 3);
        Check.makeKind(x, 1, 3, 7, 2);
        CHECK.same("copy", 50, x.copy(1, 0));
        CHECK.same("a wide cell that is told", 1, x.kind(0, 2, 0));
        CHECK.same("a wide cell that is not told", 2, x.kind(0, 3, 0));
        CHECK.same("a blank cell that is not told", 2, x.kind(0, 3, 7));
        CHECK.same("the wide cell of the card itself", 3, x.kind(1, 2, 0));
    }
}
