/** The boundary cases that the document names for untoldIf, worst and difference, one by one. */
public final class ForecastsEdgesTest {
    private static final Check CHECK = new Check();

    public static void main(String[] args) {
        untoldIfOfEachCell();
        untoldIfNeedsASoundCell();
        untoldIfIsWhatComes();
        worstOfNoSoundCell();
        worstAtEachCell();
        worstIsTheLeastOfSeveral();
        worstIsTheGreatest();
        differenceOfNoneAndAll();
        differenceNeedsBothTold();
        differenceOfEachTwoCards();
        theyChangeNothing();
        CHECK.end();
    }

    /** From 0, on a closed card, to 64, where the cell is the only one. */
    private static void untoldIfOfEachCell() {
        MirrorCards closed = new MirrorCards();
        Check.punchAll(closed, 1);
        for (int cell = 0; cell < 64; cell++) {
            CHECK.same("untoldIf on a closed card", 0, closed.untoldIf(1, cell / 8, cell % 8));
            MirrorCards x = new MirrorCards();
            x.wear(0, cell / 8, cell % 8);
            CHECK.same("untoldIf of the only sound cell " + cell, 64, x.untoldIf(0, cell / 8, cell % 8));
        }
    }

    /** "NONE if the cell is not sound", also where it is told. */
    private static void untoldIfNeedsASoundCell() {
        for (int cell = 0; cell < 64; cell++) {
            for (int kind = 0; kind < 4; kind++) {
                MirrorCards x = new MirrorCards();
                Check.punchEach(x, 0, 0);
                Check.makeKind(x, 0, cell / 8, cell % 8, kind);
                CHECK.same("untoldIf of the kind " + kind, kind < 2 ? 0 : -1, x.untoldIf(0, cell / 8, cell % 8));
                MirrorCards alone = new MirrorCards();
                Check.makeKind(alone, 0, cell / 8, cell % 8, kind);
                CHECK.same("untoldIf of the kind " + kind + " alone", kind < 2 ? 64 : -1,
                        alone.untoldIf(0, cell / 8, cell % 8));
            }
        }
    }

    /** "the number of untold cells if a sound cell was lost or worn": as untold() is when that has come. */
    private static void untoldIfIsWhatComes() {
        for (int cell = 0; cell < 64; cell++) {
            MirrorCards x = new MirrorCards();
            Check.punchAll(x, 2);
            for (int gone : new int[] {9, 10, 17, 36, 38, 52}) {
                Check.makeKind(x, 2, gone / 8, gone % 8, 2);
            }
            int forecast = x.untoldIf(2, cell / 8, cell % 8);
            if (x.kind(2, cell / 8, cell % 8) < 2) {
                Check.makeKind(x, 2, cell / 8, cell % 8, 2);
                CHECK.same("untold when it is lost", x.untold(2), forecast);
                Check.makeKind(x, 2, cell / 8, cell % 8, 3);
                CHECK.same("untold when it is worn", x.untold(2), forecast);
            } else {
                CHECK.same("untoldIf of a blank cell", -1, forecast);
            }
        }
    }

    /** "NONE if no cell is sound": all blank, and all wide. */
    private static void worstOfNoSoundCell() {
        MirrorCards x = new MirrorCards();
        CHECK.same("worst of a blank card", -1, x.worst(0));
        for (int view = 0; view < 3; view += 2) {
            x.turn(0, view);
            for (int cell = 0; cell < 64; cell++) {
                x.wear(0, cell / 8, cell % 8);
            }
        }
        CHECK.same("worst of wide cells", -1, x.worst(0));
        x.lose(0, 7, 0);
        CHECK.same("worst of the only sound cell", 63, x.worst(0));
    }

    /** "8 times its row, plus its column": from 0 to 63. */
    private static void worstAtEachCell() {
        for (int cell = 0; cell < 64; cell++) {
            MirrorCards x = new MirrorCards();
            Check.makeKind(x, 2, cell / 8, cell % 8, cell % 2);
            for (int view = 0; view < 4; view++) {
                x.turn(2, view);
                CHECK.same("worst in the view " + view, cell, x.worst(2));
            }
        }
    }

    /** "among several the one with the least such number". */
    private static void worstIsTheLeastOfSeveral() {
        for (int cell = 0; cell < 64; cell++) {
            MirrorCards x = new MirrorCards();
            x.wear(1, cell / 8, cell % 8);
            x.wear(1, (63 - cell) / 8, (63 - cell) % 8);
            CHECK.same("worst of two", Math.min(cell, 63 - cell), x.worst(1));
        }
        MirrorCards y = new MirrorCards();
        Check.punchEach(y, 1, 127);
        CHECK.same("worst of all, with nothing lost", 0, y.worst(1));
        Check.makeKind(y, 1, 0, 0, 2);
        CHECK.same("worst of all but the first", 1, y.worst(1));
    }

    /** "the sound cell with the greatest untoldIf()", though cells before and behind it are sound. */
    private static void worstIsTheGreatest() {
        for (int cell = 0; cell < 64; cell++) {
            int row = cell / 8;
            int column = cell % 8;
            MirrorCards x = new MirrorCards();
            Check.punchEach(x, 0, 0);
            // three corners of a square; the cell is the fourth
            Check.makeKind(x, 0, row, (column + 3) % 8, 2);
            Check.makeKind(x, 0, (row + 5) % 8, column, 2);
            Check.makeKind(x, 0, (row + 5) % 8, (column + 3) % 8, 3);
            CHECK.same("worst is the fourth corner", cell, x.worst(0));
            CHECK.same("untoldIf of it", 4, x.untoldIf(0, row, column));
            Check.makeKind(x, 0, row, column, 3);
            CHECK.same("untold when it is worn", 4, x.untold(0));
        }
    }

    /** From 0 to 64. */
    private static void differenceOfNoneAndAll() {
        MirrorCards x = new MirrorCards();
        CHECK.same("blank cards", 0, x.difference(0, 2));
        Check.punchEach(x, 0, 127);
        CHECK.same("ones and a blank card", 0, x.difference(0, 2));
        Check.punchEach(x, 2, 0);
        CHECK.same("ones and zeros", 64, x.difference(0, 2));
        CHECK.same("zeros and ones", 64, x.difference(2, 0));
        for (int cell = 0; cell < 64; cell++) {
            Check.makeKind(x, 2, cell / 8, cell % 8, 1);
            CHECK.same("one cell less", 63 - cell, x.difference(0, 2));
        }
    }

    /** "cells that are told on both, with different bits": each kind on each card. */
    private static void differenceNeedsBothTold() {
        for (int one = 0; one < 4; one++) {
            for (int two = 0; two < 4; two++) {
                MirrorCards x = new MirrorCards();
                Check.makeKind(x, 0, 7, 7, one);
                Check.makeKind(x, 1, 7, 7, two);
                int due = one + two == 1 ? 1 : 0;
                CHECK.same("difference of the kinds " + one + " and " + two, due, x.difference(0, 1));
            }
        }
        MirrorCards y = new MirrorCards();
        y.punch(0, 0, 127);
        y.punch(1, 0, 0);
        Check.makeKind(y, 0, 0, 3, 3);
        Check.makeKind(y, 1, 0, 7, 2);
        CHECK.same("difference with cells that are told again", 8, y.difference(0, 1));
        Check.makeKind(y, 1, 0, 6, 2);
        CHECK.same("difference with two untold cells", 6, y.difference(0, 1));
    }

    private static void differenceOfEachTwoCards() {
        MirrorCards x = new MirrorCards();
        x.punch(0, 2, 0);
        x.punch(1, 2, 1);
        x.punch(2, 2, 7);
        int[][] due = {{0, 2, 4}, {2, 0, 2}, {4, 2, 0}};
        for (int card = 0; card < 3; card++) {
            for (int other = 0; other < 3; other++) {
                CHECK.same("difference(" + card + ", " + other + ")", due[card][other], x.difference(card, other));
            }
        }
    }

    /** "forecasts; they change nothing": on cards with cells of each kind, in each view. */
    private static void theyChangeNothing() {
        for (int view = 0; view < 4; view++) {
            MirrorCards x = mixed(view);
            for (int cell = 0; cell < 64; cell++) {
                x.untoldIf(0, cell / 8, cell % 8);
            }
            x.worst(0);
            x.worst(1);
            x.difference(0, 1);
            CHECK.same("the states then", Check.historyOf(mixed(view)), Check.historyOf(x));
        }
    }

    private static MirrorCards mixed(int view) {
        MirrorCards x = new MirrorCards();
        Check.punchAll(x, 0);
        Check.makeKind(x, 0, 4, 4, 3);
        Check.makeKind(x, 0, 4, 5, 2);
        x.punch(1, 4, 4);
        x.turn(0, view);
        return x;
    }
}
