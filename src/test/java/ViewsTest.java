/** Promises 6 to 11: wear, lose, turn, view, sees, raw. */
public final class ViewsTest {
    private static final Check CHECK = new Check();

    /** For each view: the face, and the row and column of the cell that is seen at row 1, column 2. */
    private static final int[][] SEEN = {{0, 1, 2}, {0, 6, 5}, {1, 1, 5}, {1, 6, 2}};

    public static void main(String[] args) {
        wear();
        wearRefused();
        lose();
        loseRefused();
        turnAndView();
        sees();
        raw();
        refused();
        CHECK.end();
    }

    private static void wear() {
        for (int view = 0; view < 4; view++) {
            MirrorCards x = new MirrorCards();
            x.turn(1, view);
            int kind = SEEN[view][0] == 0 ? 1 : 0;
            CHECK.same("wear in the view " + view, kind, x.wear(1, 1, 2));
            CHECK.same("kind", kind, x.kind(1, SEEN[view][1], SEEN[view][2]));
            CHECK.same("blank cells", 63, x.count(1, 2));
            CHECK.same("savedStates", 2, x.savedStates());
            x.turn(1, 3 - view);
            // the views 0 and 3, and 1 and 2, show one cell at the rows r and 7 - r
            CHECK.same("wear from the other face", 3, x.wear(1, 6, 2));
            CHECK.same("wide cells", 1, x.count(1, 3));
            CHECK.same("the card 0", 64, x.count(0, 2));
        }
    }

    private static void wearRefused() {
        MirrorCards x = new MirrorCards();
        x.wear(0, 0, 0);
        CHECK.refused(x, "wear where a hole is", Check.STATE, () -> x.wear(0, 0, 0));
        CHECK.refused(x, "wear(3, 0, 0)", Check.INDEX, () -> x.wear(3, 0, 0));
        CHECK.refused(x, "wear(-1, 0, 0)", Check.INDEX, () -> x.wear(-1, 0, 0));
        CHECK.refused(x, "wear(0, 8, 0)", Check.INDEX, () -> x.wear(0, 8, 0));
        CHECK.refused(x, "wear(0, -1, 0)", Check.INDEX, () -> x.wear(0, -1, 0));
        CHECK.refused(x, "wear(0, 0, 8)", Check.INDEX, () -> x.wear(0, 0, 8));
        CHECK.refused(x, "wear(0, 0, -1)", Check.INDEX, () -> x.wear(0, 0, -1));
        x.turn(0, 2);
        CHECK.same("wear the other face", 3, x.wear(0, 0, 7));
    }

    private static void lose() {
        for (int view = 0; view < 4; view++) {
            MirrorCards x = new MirrorCards();
            x.punch(2, SEEN[view][1], SEEN[view][0] == 0 ? 127 : 0);
            x.turn(2, view);
            CHECK.same("lose in the view " + view, 2, x.lose(2, 1, 2));
            CHECK.same("kind", 2, x.kind(2, SEEN[view][1], SEEN[view][2]));
            CHECK.same("blank cells", 57, x.count(2, 2));
            CHECK.same("savedStates", 3, x.savedStates());
        }
        MirrorCards y = new MirrorCards();
        y.punch(0, 0, 127);
        y.turn(0, 2);
        y.wear(0, 0, 7);
        y.turn(0, 0);
        CHECK.same("lose the front of a wide cell", 0, y.lose(0, 0, 0));
        y.wear(0, 0, 0);
        y.turn(0, 2);
        CHECK.same("lose the back of a wide cell", 1, y.lose(0, 0, 7));
    }

    private static void loseRefused() {
        MirrorCards x = new MirrorCards();
        x.punch(0, 0, 0);
        CHECK.refused(x, "lose where no hole is", Check.STATE, () -> x.lose(0, 0, 0));
        CHECK.refused(x, "lose(3, 0, 0)", Check.INDEX, () -> x.lose(3, 0, 0));
        CHECK.refused(x, "lose(-1, 0, 0)", Check.INDEX, () -> x.lose(-1, 0, 0));
        CHECK.refused(x, "lose(0, 8, 0)", Check.INDEX, () -> x.lose(0, 8, 0));
        CHECK.refused(x, "lose(0, -1, 0)", Check.INDEX, () -> x.lose(0, -1, 0));
        CHECK.refused(x, "lose(0, 0, 8)", Check.INDEX, () -> x.lose(0, 0, 8));
        CHECK.refused(x, "lose(0, 0, -1)", Check.INDEX, () -> x.lose(0, 0, -1));
    }

    private static void turnAndView() {
        MirrorCards x = new MirrorCards();
        CHECK.same("turn(1, 3)", 0, x.turn(1, 3));
        CHECK.same("turn(1, 2)", 3, x.turn(1, 2));
        CHECK.same("turn(1, 2) again", 2, x.turn(1, 2));
        CHECK.same("savedStates", 3, x.savedStates());
        CHECK.same("view(1)", 2, x.view(1));
        CHECK.same("view(0)", 0, x.view(0));
        CHECK.same("view(2)", 0, x.view(2));
    }

    private static void sees() {
        for (int view = 0; view < 4; view++) {
            MirrorCards x = new MirrorCards();
            x.turn(0, SEEN[view][0] == 0 ? 0 : 2);
            x.wear(0, SEEN[view][1], SEEN[view][0] == 0 ? SEEN[view][2] : 7 - SEEN[view][2]);
            x.turn(0, view);
            for (int row = 0; row < 8; row++) {
                for (int column = 0; column < 8; column++) {
                    CHECK.same("sees(0, " + row + ", " + column + ") in the view " + view,
                            row == 1 && column == 2 ? 1 : 0, x.sees(0, row, column) ? 1 : 0);
                }
            }
        }
    }

    private static void raw() {
        MirrorCards x = new MirrorCards();
        x.punch(0, 2, 77);
        // 1001101 and the check bit 0: 10011010; its complement is 01100101
        int[] rows = {2, 5, 2, 5};
        int[] numbers = {0b10011010, 0b01011001, 0b10100110, 0b01100101};
        for (int view = 0; view < 4; view++) {
            x.turn(0, view);
            for (int row = 0; row < 8; row++) {
                CHECK.same("raw(0, " + row + ") in the view " + view,
                        row == rows[view] ? numbers[view] : 0, x.raw(0, row));
            }
        }
        x.wear(0, 4, 0);
        CHECK.same("raw of a row that is not whole", 128, x.raw(0, 4));
        x.wear(0, 4, 7);
        CHECK.same("raw counts the last column 1", 129, x.raw(0, 4));
    }

    private static void refused() {
        MirrorCards x = new MirrorCards();
        x.punch(0, 0, 1);
        CHECK.refused(x, "turn(3, 0)", Check.INDEX, () -> x.turn(3, 0));
        CHECK.refused(x, "turn(-1, 4)", Check.INDEX, () -> x.turn(-1, 4));
        CHECK.refused(x, "turn(0, 4)", Check.ARGUMENT, () -> x.turn(0, 4));
        CHECK.refused(x, "turn(0, -1)", Check.ARGUMENT, () -> x.turn(0, -1));
        CHECK.refused(x, "view(3)", Check.INDEX, () -> x.view(3));
        CHECK.refused(x, "view(-1)", Check.INDEX, () -> x.view(-1));
        CHECK.refused(x, "sees(3, 0, 0)", Check.INDEX, () -> x.sees(3, 0, 0));
        CHECK.refused(x, "sees(-1, 0, 0)", Check.INDEX, () -> x.sees(-1, 0, 0));
        CHECK.refused(x, "sees(0, 8, 0)", Check.INDEX, () -> x.sees(0, 8, 0));
        CHECK.refused(x, "sees(0, -1, 0)", Check.INDEX, () -> x.sees(0, -1, 0));
        CHECK.refused(x, "sees(0, 0, 8)", Check.INDEX, () -> x.sees(0, 0, 8));
        CHECK.refused(x, "sees(0, 0, -1)", Check.INDEX, () -> x.sees(0, 0, -1));
        CHECK.refused(x, "raw(3, 0)", Check.INDEX, () -> x.raw(3, 0));
        CHECK.refused(x, "raw(-1, 0)", Check.INDEX, () -> x.raw(-1, 0));
        CHECK.refused(x, "raw(0, 8)", Check.INDEX, () -> x.raw(0, 8));
        CHECK.refused(x, "raw(0, -1)", Check.INDEX, () -> x.raw(0, -1));
    }
}
