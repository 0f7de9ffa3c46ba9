/**
 * Each parameter at the least and the greatest number of its range, just outside, and at the ends of
 * int, together with each such number of the other parameters: which exception is thrown, the first
 * one of the throws clause where more than one applies; that a call that throws changes nothing; that
 * just the calls marked "Undoable" save a state.
 */
public final class RangesTest {
    private static final Check CHECK = new Check();

    private static final int MIN = Integer.MIN_VALUE;
    private static final int MAX = Integer.MAX_VALUE;
    private static final int[] CARDS = {MIN, -1, 0, 1, 2, 3, MAX};
    private static final int[] LINES = {MIN, -1, 0, 6, 7, 8, MAX};
    private static final int[] VALUES = {MIN, -1, 0, 127, 128, MAX};
    private static final int[] VIEWS = {MIN, -1, 0, 3, 4, MAX};
    private static final int[] INDICES = {MIN, -1, 0, 1, 15, 16, MAX};
    private static final int[] CODES = {MIN, -1, 0, 32, 33, 126, 127, 128, 256 + 'c', 65536 + 'c', MAX};
    private static final int[] NONE = {0};

    /** A call with up to three numbers. */
    private interface Numbered {
        Object on(MirrorCards cards, int a, int b, int c);
    }

    /** The name of the exception that is due. */
    private interface Due {
        String of(int a, int b, int c);
    }

    public static void main(String[] args) {
        punch();
        close();
        renewAndCopy();
        wearAndLose();
        turnAndView();
        cells();
        rows();
        forecasts();
        append();
        run();
        undo();
        CHECK.end();
    }

    // ---- objects

    /** No holes; a text of one part that could be done. */
    private static MirrorCards blank() {
        MirrorCards x = new MirrorCards();
        Check.type(x, "v3;v2;wf12");
        return x;
    }

    /** A hole in the front of each cell, six states saved, a text that has an error. */
    private static MirrorCards fronts() {
        MirrorCards x = new MirrorCards();
        for (int card = 0; card < 3; card++) {
            Check.punchEach(x, card, 127);
        }
        Check.type(x, "v1;v4");
        return x;
    }

    /** All is ready to be closed; the text is not complete. */
    private static MirrorCards closable() {
        MirrorCards x = fronts();
        for (int card = 0; card < 3; card++) {
            for (int column = 0; column < 8; column++) {
                x.lose(card, 7, column);
            }
        }
        x.clearText();
        Check.type(x, "v1;");
        return x;
    }

    private static MirrorCards full() {
        MirrorCards x = fronts();
        x.clearText();
        Check.type(x, "c".repeat(60));
        return x;
    }

    // ---- what is asked of each call

    private static boolean in(int number, int least, int most) {
        return least <= number && number <= most;
    }

    /** The first of the exceptions that apply. */
    private static String first(boolean index, boolean argument, boolean state) {
        return index ? Check.INDEX : argument ? Check.ARGUMENT : state ? Check.STATE : Check.NOTHING;
    }

    private static Due index(int mostA, int mostB, int mostC) {
        return (a, b, c) -> first(!in(a, 0, mostA) || !in(b, 0, mostB) || !in(c, 0, mostC), false, false);
    }

    private static void ask(String name, Check.Maker maker, boolean undoable, int[][] ranges, Numbered call, Due due) {
        for (int a : ranges[0]) {
            for (int b : ranges[1]) {
                for (int c : ranges[2]) {
                    String what = name + "(" + a + ", " + b + ", " + c + ")";
                    String thrown = due.of(a, b, c);
                    if (thrown.equals(Check.NOTHING)) {
                        goesWell(what, maker, undoable, x -> call.on(x, a, b, c));
                    } else {
                        CHECK.refusedByTwin(what, thrown, maker, x -> call.on(x, a, b, c));
                    }
                }
            }
        }
    }

    private static void goesWell(String what, Check.Maker maker, boolean undoable, Check.CallOn call) {
        MirrorCards x = maker.make();
        long digest = x.digest();
        int saved = x.savedStates();
        CHECK.same(what, Check.NOTHING, Check.thrownBy(() -> call.on(x)));
        CHECK.same(what + ", then savedStates", Math.min(6, undoable ? saved + 1 : saved), x.savedStates());
        if (undoable) {
            CHECK.same(what + ", then undo", Math.min(5, saved), x.undo());
        }
        CHECK.same(what + ", then digest", digest, x.digest());
    }

    private static int[][] ranges(int[] a, int[] b, int[] c) {
        return new int[][] {a, b, c};
    }

    // ---- the calls

    private static void punch() {
        Numbered call = (x, a, b, c) -> x.punch(a, b, c);
        ask("punch", RangesTest::blank, true, ranges(CARDS, LINES, VALUES), call,
                (a, b, c) -> first(!in(a, 0, 2) || !in(b, 0, 6), !in(c, 0, 127), false));
        ask("punch of a full row", RangesTest::fronts, true, ranges(CARDS, LINES, VALUES), call,
                (a, b, c) -> first(!in(a, 0, 2) || !in(b, 0, 6), !in(c, 0, 127), true));
    }

    private static void close() {
        Numbered call = (x, a, b, c) -> x.close(a);
        ask("close of a blank card", RangesTest::blank, true, ranges(CARDS, NONE, NONE), call,
                (a, b, c) -> first(!in(a, 0, 2), false, true));
        ask("close of a closed card", RangesTest::fronts, true, ranges(CARDS, NONE, NONE), call,
                (a, b, c) -> first(!in(a, 0, 2), false, true));
        ask("close", RangesTest::closable, true, ranges(CARDS, NONE, NONE), call, index(2, 0, 0));
    }

    private static void renewAndCopy() {
        ask("renew of a blank card", RangesTest::blank, true, ranges(CARDS, NONE, NONE), (x, a, b, c) -> x.renew(a),
                index(2, 0, 0));
        ask("renew", RangesTest::fronts, true, ranges(CARDS, NONE, NONE), (x, a, b, c) -> x.renew(a), index(2, 0, 0));
        Due due = (a, b, c) -> first(!in(a, 0, 2) || !in(b, 0, 2), a == b, false);
        ask("copy of a blank card", RangesTest::blank, true, ranges(CARDS, CARDS, NONE), (x, a, b, c) -> x.copy(a, b),
                due);
        ask("copy", RangesTest::closable, true, ranges(CARDS, CARDS, NONE), (x, a, b, c) -> x.copy(a, b), due);
    }

    private static void wearAndLose() {
        Numbered wear = (x, a, b, c) -> x.wear(a, b, c);
        Numbered lose = (x, a, b, c) -> x.lose(a, b, c);
        Due refused = (a, b, c) -> first(!in(a, 0, 2) || !in(b, 0, 7) || !in(c, 0, 7), false, true);
        ask("wear", RangesTest::blank, true, ranges(CARDS, LINES, LINES), wear, index(2, 7, 7));
        ask("wear of a hole", RangesTest::fronts, true, ranges(CARDS, LINES, LINES), wear, refused);
        ask("lose", RangesTest::fronts, true, ranges(CARDS, LINES, LINES), lose, index(2, 7, 7));
        ask("lose of no hole", RangesTest::blank, true, ranges(CARDS, LINES, LINES), lose, refused);
    }

    private static void turnAndView() {
        ask("turn", RangesTest::fronts, true, ranges(CARDS, VIEWS, NONE), (x, a, b, c) -> x.turn(a, b),
                (a, b, c) -> first(!in(a, 0, 2), !in(b, 0, 3), false));
        ask("view", RangesTest::fronts, false, ranges(CARDS, NONE, NONE), (x, a, b, c) -> x.view(a), index(2, 0, 0));
        ask("sees", RangesTest::fronts, false, ranges(CARDS, LINES, LINES), (x, a, b, c) -> x.sees(a, b, c),
                index(2, 7, 7));
        ask("raw", RangesTest::fronts, false, ranges(CARDS, LINES, NONE), (x, a, b, c) -> x.raw(a, b), index(2, 7, 0));
    }

    private static void cells() {
        ask("kind", RangesTest::closable, false, ranges(CARDS, LINES, LINES), (x, a, b, c) -> x.kind(a, b, c),
                index(2, 7, 7));
        ask("told", RangesTest::closable, false, ranges(CARDS, LINES, LINES), (x, a, b, c) -> x.told(a, b, c),
                index(2, 7, 7));
        ask("count", RangesTest::closable, false, ranges(CARDS, VIEWS, NONE), (x, a, b, c) -> x.count(a, b),
                index(2, 3, 0));
    }

    private static void rows() {
        ask("read", RangesTest::closable, false, ranges(CARDS, LINES, NONE), (x, a, b, c) -> x.read(a, b),
                index(2, 6, 0));
        ask("value", RangesTest::closable, false, ranges(CARDS, LINES, NONE), (x, a, b, c) -> x.value(a, b),
                index(2, 6, 0));
        ask("untold", RangesTest::closable, false, ranges(CARDS, NONE, NONE), (x, a, b, c) -> x.untold(a),
                index(2, 0, 0));
        ask("disagreements", RangesTest::closable, false, ranges(CARDS, NONE, NONE),
                (x, a, b, c) -> x.disagreements(a), index(2, 0, 0));
        ask("disagreement", RangesTest::closable, false, ranges(CARDS, INDICES, NONE),
                (x, a, b, c) -> x.disagreement(a, b), index(2, MAX, 0));
        ask("soundShare", RangesTest::closable, false, ranges(CARDS, NONE, NONE), (x, a, b, c) -> x.soundShare(a),
                index(2, 0, 0));
    }

    private static void forecasts() {
        ask("untoldIf", RangesTest::closable, false, ranges(CARDS, LINES, LINES), (x, a, b, c) -> x.untoldIf(a, b, c),
                index(2, 7, 7));
        ask("worst", RangesTest::closable, false, ranges(CARDS, NONE, NONE), (x, a, b, c) -> x.worst(a),
                index(2, 0, 0));
        ask("difference", RangesTest::closable, false, ranges(CARDS, CARDS, NONE), (x, a, b, c) -> x.difference(a, b),
                index(2, 2, 0));
    }

    private static void append() {
        Numbered call = (x, a, b, c) -> x.append(a);
        ask("append", RangesTest::blank, false, ranges(CODES, NONE, NONE), call,
                (a, b, c) -> first(false, !in(a, 33, 126), false));
        ask("append to a full buffer", RangesTest::full, false, ranges(CODES, NONE, NONE), call,
                (a, b, c) -> first(false, !in(a, 33, 126), true));
    }

    private static void run() {
        Numbered call = (x, a, b, c) -> x.run();
        ask("run", RangesTest::blank, true, ranges(NONE, NONE, NONE), call, index(0, 0, 0));
        Due refused = (a, b, c) -> Check.ARGUMENT;
        ask("run of an empty buffer", MirrorCards::new, true, ranges(NONE, NONE, NONE), call, refused);
        ask("run of an error", RangesTest::fronts, true, ranges(NONE, NONE, NONE), call, refused);
        ask("run of a part that is not whole", RangesTest::closable, true, ranges(NONE, NONE, NONE), call, refused);
        ask("run of a full buffer with errors", RangesTest::full, true, ranges(NONE, NONE, NONE), call, refused);
    }

    private static void undo() {
        ask("undo with no saved state", RangesTest::blank, false, ranges(NONE, NONE, NONE), (x, a, b, c) -> x.undo(),
                (a, b, c) -> Check.STATE);
    }
}
