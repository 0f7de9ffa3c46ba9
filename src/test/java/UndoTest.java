/** Promises 28 to 30: undo, savedStates, digest. */
public final class UndoTest {
    private static final Check CHECK = new Check();

    public static void main(String[] args) {
        undoOfEachCall();
        sixStates();
        undoRefused();
        undoLeavesTheBuffer();
        whatSavesNothing();
        digest();
        CHECK.end();
    }

    private static void takenBack(MirrorCards x, String what, Check.Call call) {
        long before = x.digest();
        int saved = x.savedStates();
        call.go();
        CHECK.same("savedStates after " + what, saved + 1, x.savedStates());
        CHECK.same("undo of " + what, saved, x.undo());
        CHECK.same("digest after the undo of " + what, before, x.digest());
        call.go();
        if (x.savedStates() == 6) {
            x.undo();
        }
    }

    private static void undoOfEachCall() {
        MirrorCards x = new MirrorCards();
        takenBack(x, "punch", () -> x.punch(0, 0, 100));
        takenBack(x, "wear", () -> x.wear(1, 1, 1));
        takenBack(x, "lose", () -> x.lose(1, 1, 1));
        takenBack(x, "turn", () -> x.turn(1, 3));
        takenBack(x, "turn to the same view", () -> x.turn(1, 3));
        takenBack(x, "copy", () -> x.copy(0, 2));
        takenBack(x, "renew", () -> x.renew(0));
        takenBack(x, "renew of a new card", () -> x.renew(1));
        takenBack(x, "run", () -> {
            Check.type(x, "p3=3;v2");
            x.run();
        });
        takenBack(x, "run of nothing", () -> {
            Check.type(x, "c");
            x.run();
        });
        MirrorCards y = new MirrorCards();
        for (int row = 0; row < 7; row++) {
            y.punch(1, row, row);
        }
        y.undo();
        y.punch(1, 6, 99);
        y.undo();
        y.undo();
        CHECK.same("undo twice", -1, y.read(1, 5));
        CHECK.same("undo twice", 4, y.read(1, 4));
        y.punch(1, 5, 5);
        y.punch(1, 6, 6);
        y.undo();
        y.punch(1, 6, 7);
        y.undo();
        y.punch(1, 6, 8);
        long before = y.digest();
        CHECK.same("close", 2, y.close(1));
        y.undo();
        CHECK.same("digest after the undo of close", before, y.digest());
    }

    private static void sixStates() {
        MirrorCards x = new MirrorCards();
        for (int i = 1; i <= 9; i++) {
            x.turn(i % 3, i % 4);
            CHECK.same("savedStates", Math.min(i, 6), x.savedStates());
        }
        int[] views = {0, 1, 2, 3, 0, 1, 2, 3, 0, 1};
        for (int i = 9; i > 3; i--) {
            CHECK.same("view(" + i % 3 + ")", views[i], x.view(i % 3));
            CHECK.same("undo", i - 4, x.undo());
            CHECK.same("view(" + i % 3 + ") after undo", views[i - 3], x.view(i % 3));
        }
        CHECK.same("what is too old stays", 3, x.view(0));
        CHECK.same("what is too old stays", 1, x.view(1));
        CHECK.same("what is too old stays", 2, x.view(2));
        CHECK.refused(x, "a seventh undo", Check.STATE, x::undo);
    }

    private static void undoRefused() {
        MirrorCards x = new MirrorCards();
        CHECK.refused(x, "undo of nothing", Check.STATE, x::undo);
        x.punch(0, 0, 1);
        CHECK.same("undo", 0, x.undo());
        CHECK.refused(x, "undo again", Check.STATE, x::undo);
    }

    private static void undoLeavesTheBuffer() {
        MirrorCards x = new MirrorCards();
        x.append('v');
        x.turn(0, 1);
        x.append('2');
        CHECK.same("undo", 0, x.undo());
        CHECK.same("firstError", 2, x.firstError());
        CHECK.same("run", 1, x.run());
        CHECK.same("view", 2, x.view(0));
        x.append('c');
        CHECK.same("undo of run", 0, x.undo());
        CHECK.same("view", 0, x.view(0));
        CHECK.same("the buffer after it", 1, x.clearText());
    }

    private static void whatSavesNothing() {
        MirrorCards x = new MirrorCards();
        x.append('c');
        x.firstError();
        x.clearText();
        x.view(0);
        x.sees(0, 0, 0);
        x.raw(0, 0);
        x.kind(0, 0, 0);
        x.told(0, 0, 0);
        x.count(0, 0);
        x.read(0, 0);
        x.value(0, 0);
        x.untold(0);
        x.disagreements(0);
        x.disagreement(0, 0);
        x.soundShare(0);
        x.untoldIf(0, 0, 0);
        x.worst(0);
        x.difference(0, 1);
        x.digest();
        CHECK.same("savedStates", 0, x.savedStates());
        CHECK.same("digest", 183147228821064745L, x.digest());
    }

    /** The hash by the calls that the document names. */
    private static long digestByCalls(MirrorCards x) {
        long hash = 4876;
        for (int card = 0; card < 3; card++) {
            hash = 31 * hash + x.view(card);
            for (int kind = 0; kind < 4; kind++) {
                hash = 31 * hash + x.count(card, kind);
            }
            hash = 31 * hash + x.untold(card);
            hash = 31 * hash + x.disagreements(card);
            hash = 31 * hash + x.worst(card);
            for (int row = 0; row < 8; row++) {
                hash = 31 * hash + x.raw(card, row);
            }
            for (int row = 0; row < 7; row++) {
                hash = 31 * hash + x.read(card, row);
                hash = 31 * hash + x.value(card, row);
            }
            for (int cell = 0; cell < 64; cell++) {
                hash = 31 * hash + x.kind(card, cell / 8, cell % 8);
                hash = 31 * hash + x.told(card, cell / 8, cell % 8);
            }
        }
        return hash;
    }

    private static void digest() {
        MirrorCards x = new MirrorCards();
        x.punch(0, 2, 77);
        long punched = x.digest();
        MirrorCards same = new MirrorCards();
        same.punch(0, 2, 77);
        CHECK.same("digest of a punched row", digestByCalls(same), punched);
        x.append('c');
        CHECK.same("the buffer does not count", punched, x.digest());
        x.turn(0, 0);
        CHECK.same("the saved states do not count", punched, x.digest());

        MirrorCards y = new MirrorCards();
        Check.punchAll(y, 0);
        Check.blankOut(y, 0, 2, 2);
        Check.blankOut(y, 0, 2, 3);
        Check.blankOut(y, 0, 3, 2);
        y.wear(0, 3, 2);
        y.turn(0, 3);
        y.punch(2, 1, 45);
        y.turn(2, 2);
        y.wear(2, 0, 0);
        y.wear(2, 0, 1);
        y.wear(2, 1, 6);
        CHECK.same("digest of worn cards", digestByCalls(y), y.digest());
    }
}
