/** The boundary cases that the document names for read, value, untold, the disagreements, and soundShare. */
public final class RowsEdgesTest {
    private static final Check CHECK = new Check();

    public static void main(String[] args) {
        readNeedsEachCellSound();
        readAndValueOfEachNumber();
        valueNeedsEachCellTold();
        rowSevenHasNoValue();
        untoldOfNoneAndAll();
        eachLineDisagrees();
        aLineWithUntoldCellsDoesNot();
        noDisagreementAndAll();
        indexAtItsEnds();
        shareOfNoneAndAll();
        CHECK.end();
    }

    /** "if its cells in the columns 0 to 6 are all sound; otherwise NONE": each cell, each kind. */
    private static void readNeedsEachCellSound() {
        for (int row = 0; row <= 6; row++) {
            for (int column = 0; column <= 7; column++) {
                for (int kind = 0; kind < 4; kind++) {
                    MirrorCards x = new MirrorCards();
                    x.punch(0, row, 0);
                    Check.makeKind(x, 0, row, column, kind);
                    int bit = column < 7 ? 64 >> column : 0;
                    int read = column < 7 && kind >= 2 ? MirrorCards.NONE : kind == 1 ? bit : 0;
                    String what = " with the kind " + kind + " at " + row + ", " + column;
                    CHECK.same("read" + what, read, x.read(0, row));
                    CHECK.same("value" + what, kind == 1 ? bit : 0, x.value(0, row));
                }
            }
        }
    }

    private static void readAndValueOfEachNumber() {
        for (int value = 0; value <= 127; value++) {
            MirrorCards x = new MirrorCards();
            x.punch(1, value % 7, value);
            for (int row = 0; row <= 6; row++) {
                CHECK.same("read", row == value % 7 ? value : -1, x.read(1, row));
                CHECK.same("value", row == value % 7 ? value : -1, x.value(1, row));
            }
            Check.makeKind(x, 1, value % 7, value % 8, 2);
            CHECK.same("value with a blank cell", value, x.value(1, value % 7));
        }
    }

    /** "A row from 0 to 6 is told if its cells in the columns 0 to 6 are told". */
    private static void valueNeedsEachCellTold() {
        for (int row = 0; row <= 6; row++) {
            for (int one = 0; one <= 7; one++) {
                for (int two = 0; two < one; two++) {
                    MirrorCards x = new MirrorCards();
                    x.punch(2, row, 99);
                    Check.makeKind(x, 2, row, one, 2);
                    CHECK.same("value without column " + one, 99, x.value(2, row));
                    Check.makeKind(x, 2, row, two, 3);
                    CHECK.same("value without columns " + two + " and " + one, -1, x.value(2, row));
                }
            }
        }
    }

    private static void rowSevenHasNoValue() {
        MirrorCards x = new MirrorCards();
        Check.punchEach(x, 0, 127);
        CHECK.same("read(0, 6)", 127, x.read(0, 6));
        CHECK.same("value(0, 6)", 127, x.value(0, 6));
        CHECK.refused(x, "read(0, 7)", Check.INDEX, () -> x.read(0, 7));
        CHECK.refused(x, "value(0, 7)", Check.INDEX, () -> x.value(0, 7));
    }

    private static void untoldOfNoneAndAll() {
        MirrorCards x = new MirrorCards();
        CHECK.same("untold of a blank card", 64, x.untold(0));
        for (int cell = 0; cell < 64; cell++) {
            x.wear(0, cell / 8, cell % 8);
        }
        CHECK.same("untold of ones", 0, x.untold(0));
        x.turn(0, 2);
        for (int cell = 0; cell < 64; cell++) {
            x.wear(0, cell / 8, cell % 8);
        }
        CHECK.same("untold of wide cells", 64, x.untold(0));
    }

    /** "A line disagrees if all its eight cells are told, and the number of ones among them is odd": 0 to 8 ones. */
    private static void eachLineDisagrees() {
        for (int line = 0; line < 16; line++) {
            for (int ones = 0; ones <= 8; ones++) {
                MirrorCards x = new MirrorCards();
                for (int place = 0; place < 8; place++) {
                    Check.makeKind(x, 1, line < 8 ? line : place, line < 8 ? place : line - 8, place < ones ? 1 : 0);
                }
                CHECK.same("disagreements with " + ones + " ones", ones % 2, x.disagreements(1));
                CHECK.same("the first", ones % 2 == 1 ? line : -1, x.disagreement(1, 0));
                CHECK.same("the next", -1, x.disagreement(1, 1));
                CHECK.same("disagreements of another card", 0, x.disagreements(0));
            }
        }
    }

    /** A line with seven sound cells is told so that it fits; with six it has untold cells. */
    private static void aLineWithUntoldCellsDoesNot() {
        for (int line = 0; line < 16; line++) {
            MirrorCards x = new MirrorCards();
            for (int place = 0; place < 8; place++) {
                Check.makeKind(x, 1, line < 8 ? line : place, line < 8 ? place : line - 8, place == 4 ? 1 : 0);
            }
            CHECK.same("eight sound cells", 1, x.disagreements(1));
            Check.makeKind(x, 1, line < 8 ? line : 0, line < 8 ? 0 : line - 8, 3);
            CHECK.same("seven sound cells", 0, x.disagreements(1));
            Check.makeKind(x, 1, line < 8 ? line : 7, line < 8 ? 7 : line - 8, 2);
            CHECK.same("six sound cells", 0, x.disagreements(1));
            CHECK.same("untold", 58, x.untold(1));
        }
    }

    /** "the number of lines, 0 to 16", of which the last one is the column 7. */
    private static void noDisagreementAndAll() {
        MirrorCards x = new MirrorCards();
        Check.punchEach(x, 0, 127);
        CHECK.same("disagreements of a closed card", 0, x.disagreements(0));
        CHECK.same("disagreement(0, 0)", -1, x.disagreement(0, 0));
        for (int line = 0; line < 8; line++) {
            Check.makeKind(x, 0, line, line, 0);
        }
        CHECK.same("disagreements with a diagonal", 16, x.disagreements(0));
        for (int index = 0; index < 16; index++) {
            CHECK.same("disagreement(0, " + index + ")", index, x.disagreement(0, index));
        }
        CHECK.same("disagreement(0, 16)", -1, x.disagreement(0, 16));
        for (int view = 1; view < 4; view++) {
            x.turn(0, view);
            CHECK.same("disagreements in the view " + view, 16, x.disagreements(0));
        }
    }

    /** "0 for the first one"; "NONE if there are not so many"; refused if negative, whatever there is. */
    private static void indexAtItsEnds() {
        MirrorCards x = new MirrorCards();
        Check.punchEach(x, 2, 0);
        Check.makeKind(x, 2, 4, 7, 1);
        CHECK.same("the row first", 4, x.disagreement(2, 0));
        CHECK.same("then the column", 15, x.disagreement(2, 1));
        CHECK.same("no third", -1, x.disagreement(2, 2));
        CHECK.same("an index at the end of int", -1, x.disagreement(2, Integer.MAX_VALUE));
        CHECK.refused(x, "disagreement(2, -1)", Check.INDEX, () -> x.disagreement(2, -1));
        CHECK.refused(x, "disagreement(2, min)", Check.INDEX, () -> x.disagreement(2, Integer.MIN_VALUE));
        CHECK.same("none of another card", -1, x.disagreement(1, 0));
        CHECK.refused(x, "disagreement(1, -1)", Check.INDEX, () -> x.disagreement(1, -1));
    }

    /** "the number of sound cells, as a double, divided by 64": 0 to 64 of them. */
    private static void shareOfNoneAndAll() {
        MirrorCards x = new MirrorCards();
        for (int sound = 0; sound < 64; sound++) {
            CHECK.isTrue("share of " + sound, x.soundShare(1) == sound * 0.015625);
            x.wear(1, sound / 8, sound % 8);
        }
        CHECK.isTrue("share of all", x.soundShare(1) == 1.0);
        CHECK.isTrue("share of none, on another card", x.soundShare(0) == 0.0);
        x.turn(1, 2);
        x.wear(1, 0, 0);
        CHECK.isTrue("share with a wide cell", x.soundShare(1) == 0.984375);
    }
}
