/** Promises 21 to 23: untoldIf, worst, difference. */
public final class ForecastsTest {
    private static final Check CHECK = new Check();

    public static void main(String[] args) {
        closedCard();
        cornerOfASquare();
        singleRow();
        nothingChanges();
        difference();
        refused();
        CHECK.end();
    }

    private static void closedCard() {
        MirrorCards x = new MirrorCards();
        CHECK.same("worst of a new card", -1, x.worst(0));
        CHECK.same("untoldIf of a new card", -1, x.untoldIf(0, 0, 0));
        Check.punchAll(x, 0);
        CHECK.same("untoldIf of a closed card", 0, x.untoldIf(0, 0, 0));
        CHECK.same("untoldIf of its last cell", 0, x.untoldIf(0, 7, 7));
        CHECK.same("worst of a closed card", 0, x.worst(0));
        x.turn(0, 2);
        x.wear(0, 0, 7);
        CHECK.same("untoldIf of a wide cell", -1, x.untoldIf(0, 0, 0));
        CHECK.same("worst, now that the first is wide", 1, x.worst(0));
        CHECK.same("worst of another card", -1, x.worst(1));
    }

    private static void cornerOfASquare() {
        MirrorCards x = new MirrorCards();
        Check.punchAll(x, 1);
        Check.blankOut(x, 1, 2, 3);
        Check.blankOut(x, 1, 2, 6);
        Check.blankOut(x, 1, 5, 6);
        CHECK.same("untold", 0, x.untold(1));
        CHECK.same("untoldIf of the last corner", 4, x.untoldIf(1, 5, 3));
        CHECK.same("untoldIf of another cell", 0, x.untoldIf(1, 5, 4));
        CHECK.same("untoldIf of a blank cell", -1, x.untoldIf(1, 2, 3));
        CHECK.same("worst", 8 * 5 + 3, x.worst(1));
        x.turn(1, 3);
        CHECK.same("untoldIf in another view", 4, x.untoldIf(1, 5, 3));
        CHECK.same("worst in another view", 8 * 5 + 3, x.worst(1));
    }

    private static void singleRow() {
        MirrorCards x = new MirrorCards();
        x.punch(2, 4, 33);
        CHECK.same("untoldIf in a whole row", 56, x.untoldIf(2, 4, 0));
        CHECK.same("worst in a whole row", 32, x.worst(2));
        Check.blankOut(x, 2, 4, 0);
        CHECK.same("untoldIf in a row with a blank cell", 58, x.untoldIf(2, 4, 7));
        CHECK.same("worst in a row with a blank cell", 33, x.worst(2));
        for (int column = 1; column < 7; column++) {
            Check.blankOut(x, 2, 4, column);
        }
        CHECK.same("untoldIf of the only sound cell", 64, x.untoldIf(2, 4, 7));
        CHECK.same("worst of the only sound cell", 39, x.worst(2));
    }

    private static void nothingChanges() {
        MirrorCards x = new MirrorCards();
        Check.punchAll(x, 0);
        Check.blankOut(x, 0, 0, 0);
        long digest = x.digest();
        int saved = x.savedStates();
        CHECK.same("untoldIf", 0, x.untoldIf(0, 0, 1));
        CHECK.same("worst", 1, x.worst(0));
        CHECK.same("difference", 0, x.difference(0, 1));
        CHECK.same("digest after forecasts", digest, x.digest());
        CHECK.same("savedStates after forecasts", saved, x.savedStates());
    }

    private static void difference() {
        MirrorCards x = new MirrorCards();
        CHECK.same("new cards", 0, x.difference(0, 1));
        x.punch(0, 0, 127);
        x.punch(1, 1, 127);
        CHECK.same("other rows", 0, x.difference(0, 1));
        x.punch(1, 0, 126);
        CHECK.same("a bit and its check bit", 2, x.difference(0, 1));
        CHECK.same("the other way round", 2, x.difference(1, 0));
        CHECK.same("the same card", 0, x.difference(1, 1));
        Check.blankOut(x, 1, 0, 6);
        CHECK.same("with a told cell", 2, x.difference(0, 1));
        Check.blankOut(x, 1, 0, 0);
        CHECK.same("with two untold cells", 1, x.difference(0, 1));
        x.turn(0, 2);
        CHECK.same("in another view", 1, x.difference(0, 1));
        x.punch(2, 0, 0);
        CHECK.same("all but one", 8, x.difference(2, 0));
        CHECK.same("six told cells", 5, x.difference(2, 1));
    }

    private static void refused() {
        MirrorCards x = new MirrorCards();
        x.punch(0, 0, 1);
        int[][] outside = {{3, 0, 0}, {-1, 0, 0}, {0, 8, 0}, {0, -1, 0}, {0, 0, 8}, {0, 0, -1}, {0, 8, 8}};
        for (int[] at : outside) {
            CHECK.refused(x, "untoldIf(" + at[0] + ", " + at[1] + ", " + at[2] + ")", Check.INDEX,
                    () -> x.untoldIf(at[0], at[1], at[2]));
        }
        for (int card : new int[] {-1, 3, Integer.MIN_VALUE, Integer.MAX_VALUE}) {
            CHECK.refused(x, "worst(" + card + ")", Check.INDEX, () -> x.worst(card));
            CHECK.refused(x, "difference(0, " + card + ")", Check.INDEX, () -> x.difference(0, card));
            CHECK.refused(x, "difference(" + card + ", 0)", Check.INDEX, () -> x.difference(card, 0));
        }
    }
}
