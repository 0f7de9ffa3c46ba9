/** The boundary cases that the document names for wear, lose, turn, view, sees and raw, one by one. */
public final class ViewsEdgesTest {
    private static final Check CHECK = new Check();

    /** The cell 8 * row + column that is seen at each place, by turning a grid of numbers as the document says. */
    private static final int[][][] SEEN = {
        grid(), halfTurned(grid()), turnedLikeAPage(grid()), halfTurned(turnedLikeAPage(grid()))
    };

    public static void main(String[] args) {
        eachPlaceInEachView();
        wearAndLoseGiveEachKind();
        refusedForTheSeenFaceAlone();
        rawOfEachColumn();
        rawOfNoneAndAll();
        turnBetweenEachTwoViews();
        viewsOfCardsAreTheirOwn();
        CHECK.end();
    }

    private static int[][] grid() {
        int[][] cells = new int[8][8];
        for (int cell = 0; cell < 64; cell++) {
            cells[cell / 8][cell % 8] = cell;
        }
        return cells;
    }

    private static int[][] turnedLikeAPage(int[][] from) {
        int[][] to = new int[8][8];
        for (int row = 0; row < 8; row++) {
            for (int column = 0; column < 8; column++) {
                to[row][7 - column] = from[row][column];
            }
        }
        return to;
    }

    private static int[][] halfTurned(int[][] from) {
        int[][] to = new int[8][8];
        for (int row = 0; row < 8; row++) {
            for (int column = 0; column < 8; column++) {
                to[7 - row][7 - column] = from[row][column];
            }
        }
        return to;
    }

    /** Each seen row and column from 0 to 7: a hole is worn, seen there alone, and lost. */
    private static void eachPlaceInEachView() {
        for (int view = 0; view < 4; view++) {
            for (int place = 0; place < 64; place++) {
                int row = place / 8;
                int column = place % 8;
                int cell = SEEN[view][row][column];
                String where = " at " + row + ", " + column + " in the view " + view;
                MirrorCards x = new MirrorCards();
                x.turn(1, view);
                CHECK.same("wear" + where, view < 2 ? 1 : 0, x.wear(1, row, column));
                CHECK.same("kind" + where, view < 2 ? 1 : 0, x.kind(1, cell / 8, cell % 8));
                CHECK.same("blank cells after wear" + where, 63, x.count(1, 2));
                seenThereAlone(x, row, column, where);
                CHECK.same("lose" + where, 2, x.lose(1, row, column));
                CHECK.same("blank cells after lose" + where, 64, x.count(1, 2));
            }
        }
    }

    private static void seenThereAlone(MirrorCards x, int row, int column, String where) {
        for (int place = 0; place < 64; place++) {
            boolean there = place == 8 * row + column;
            CHECK.same("sees" + where, there ? 1 : 0, x.sees(1, place / 8, place % 8) ? 1 : 0);
        }
        for (int each = 0; each < 8; each++) {
            CHECK.same("raw" + where, each == row ? 128 >> column : 0, x.raw(1, each));
        }
    }

    /** "Returns the kind of the cell then", from each kind, by each face. */
    private static void wearAndLoseGiveEachKind() {
        MirrorCards x = new MirrorCards();
        CHECK.same("wear the front of a blank cell", 1, x.wear(0, 0, 0));
        x.turn(0, 2);
        CHECK.same("wear the back of a one", 3, x.wear(0, 0, 7));
        x.turn(0, 0);
        CHECK.same("lose the front of a wide cell", 0, x.lose(0, 0, 0));
        CHECK.same("wear the front of a zero", 3, x.wear(0, 0, 0));
        x.turn(0, 2);
        CHECK.same("lose the back of a wide cell", 1, x.lose(0, 0, 7));
        x.turn(0, 0);
        CHECK.same("lose the front of a one", 2, x.lose(0, 0, 0));
        x.turn(0, 2);
        CHECK.same("wear the back of a blank cell", 0, x.wear(0, 0, 7));
        CHECK.same("lose the back of a zero", 2, x.lose(0, 0, 7));
    }

    /** "IllegalStateException if there is a hole", or none, at the place of the face that is seen. */
    private static void refusedForTheSeenFaceAlone() {
        for (int view = 0; view < 4; view++) {
            for (int kind = 0; kind < 4; kind++) {
                boolean hole = kind == 3 || kind == (view < 2 ? 1 : 0);
                int v = view;
                int k = kind;
                Check.Maker maker = () -> {
                    MirrorCards x = new MirrorCards();
                    int cell = SEEN[v][5][1];
                    Check.makeKind(x, 2, cell / 8, cell % 8, k);
                    x.turn(2, v);
                    return x;
                };
                String what = " of the kind " + kind + " in the view " + view;
                if (hole) {
                    CHECK.refusedByTwin("wear" + what, Check.STATE, maker, x -> x.wear(2, 5, 1));
                    CHECK.same("lose" + what, kind == 3 ? 1 - (view < 2 ? 1 : 0) : 2, maker.make().lose(2, 5, 1));
                } else {
                    CHECK.refusedByTwin("lose" + what, Check.STATE, maker, x -> x.lose(2, 5, 1));
                    CHECK.same("wear" + what, kind == 2 ? (view < 2 ? 1 : 0) : 3, maker.make().wear(2, 5, 1));
                }
            }
        }
    }

    /** "the sum of 128 / (2 to the power c) over the seen columns c". */
    private static void rawOfEachColumn() {
        int[] counts = {128, 64, 32, 16, 8, 4, 2, 1};
        MirrorCards x = new MirrorCards();
        int sum = 0;
        for (int column = 0; column < 8; column++) {
            x.wear(0, 7, column);
            sum += counts[column];
            CHECK.same("raw with the columns up to " + column, sum, x.raw(0, 7));
        }
    }

    /** "the raw number, 0 to 255": in each view, of each row. */
    private static void rawOfNoneAndAll() {
        MirrorCards x = new MirrorCards();
        Check.punchEach(x, 0, 127);
        Check.punchEach(x, 1, 0);
        for (int view = 0; view < 4; view++) {
            x.turn(0, view);
            x.turn(1, view);
            for (int row = 0; row < 8; row++) {
                CHECK.same("raw of ones in the view " + view, view < 2 ? 255 : 0, x.raw(0, row));
                CHECK.same("raw of zeros in the view " + view, view < 2 ? 0 : 255, x.raw(1, row));
            }
        }
    }

    private static void turnBetweenEachTwoViews() {
        for (int from = 0; from < 4; from++) {
            for (int to = 0; to < 4; to++) {
                MirrorCards x = new MirrorCards();
                x.turn(2, from);
                CHECK.same("turn from " + from + " to " + to, from, x.turn(2, to));
                CHECK.same("view then", to, x.view(2));
                CHECK.same("savedStates, even if nothing changes", 2, x.savedStates());
            }
        }
    }

    private static void viewsOfCardsAreTheirOwn() {
        for (int card = 0; card < 3; card++) {
            MirrorCards x = new MirrorCards();
            x.turn(card, 3);
            for (int each = 0; each < 3; each++) {
                CHECK.same("view(" + each + ")", each == card ? 3 : 0, x.view(each));
            }
        }
    }
}
