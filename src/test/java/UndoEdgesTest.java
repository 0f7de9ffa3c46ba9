import java.math.BigInteger;

/** The boundary cases that the document names for undo, savedStates and digest, and the 512 calls of an object. */
public final class UndoEdgesTest {
    private static final Check CHECK = new Check();

    public static void main(String[] args) {
        noSavedState();
        oneStateMoreThanAreKept();
        sixStatesOfEachDepth();
        eachCallSavesThoughNothingChanges();
        callsThatThrowSaveNothing();
        undoRestoresAllCards();
        statesSavedBehindUndo();
        theBufferIsNoState();
        theHashOverflows();
        digestOfEachView();
        digestHasEachCell();
        theLastOf512Calls();
        CHECK.end();
    }

    /** "IllegalStateException if no state is saved": at first, and when all are used. */
    private static void noSavedState() {
        MirrorCards x = new MirrorCards();
        CHECK.same("savedStates of a new object", 0, x.savedStates());
        CHECK.refused(x, "undo of a new object", Check.STATE, x::undo);
        x.turn(2, 3);
        CHECK.same("savedStates", 1, x.savedStates());
        CHECK.same("undo", 0, x.undo());
        CHECK.same("view", 0, x.view(2));
        CHECK.refused(x, "undo when all are used", Check.STATE, x::undo);
        CHECK.refusedByTwin("undo with a text", Check.STATE, () -> {
            MirrorCards y = new MirrorCards();
            Check.type(y, "v1");
            return y;
        }, MirrorCards::undo);
    }

    /** "At most 6 states are saved; when one more is saved, the oldest one is discarded." */
    private static void oneStateMoreThanAreKept() {
        for (int row = 0; row < 8; row++) {
            MirrorCards x = new MirrorCards();
            for (int i = 0; i <= 6; i++) {
                x.wear(1, row, i);
                CHECK.same("savedStates", Math.min(i + 1, 6), x.savedStates());
            }
            for (int left = 5; left >= 0; left--) {
                CHECK.same("undo", left, x.undo());
                CHECK.same("savedStates", left, x.savedStates());
                CHECK.same("cells with holes", left + 1, x.count(1, 1));
            }
            CHECK.refused(x, "undo of the oldest one", Check.STATE, x::undo);
            CHECK.same("the first hole stays", 1, x.kind(1, row, 0));
        }
    }

    /** Any number of calls: as many undos as there are calls, at most 6, give each state back. */
    private static void sixStatesOfEachDepth() {
        for (int calls = 0; calls <= 20; calls++) {
            MirrorCards x = new MirrorCards();
            long[] digests = new long[calls + 1];
            digests[0] = x.digest();
            for (int i = 1; i <= calls; i++) {
                x.wear(i % 3, i / 8, i % 8);
                digests[i] = x.digest();
            }
            int kept = Math.min(calls, 6);
            CHECK.same("savedStates after " + calls, kept, x.savedStates());
            for (int i = 1; i <= kept; i++) {
                CHECK.same("undo", kept - i, x.undo());
                CHECK.same("digest", digests[calls - i], x.digest());
            }
            CHECK.refused(x, "one undo more", Check.STATE, x::undo);
        }
    }

    /** "saves the state from before the call if it does not throw an exception, even if nothing changes". */
    private static void eachCallSavesThoughNothingChanges() {
        MirrorCards x = new MirrorCards();
        long digest = x.digest();
        x.turn(0, 0);
        CHECK.same("savedStates after turn", 1, x.savedStates());
        x.renew(1);
        CHECK.same("savedStates after renew", 2, x.savedStates());
        x.copy(0, 2);
        CHECK.same("savedStates after copy", 3, x.savedStates());
        x.append('c');
        x.run();
        CHECK.same("savedStates after run", 4, x.savedStates());
        Check.type(x, "v0");
        x.run();
        CHECK.same("savedStates after run", 5, x.savedStates());
        CHECK.same("digest", digest, x.digest());
        for (int left = 4; left >= 0; left--) {
            CHECK.same("undo", left, x.undo());
            CHECK.same("digest", digest, x.digest());
        }
    }

    /** "A call that throws an exception changes nothing": six kept states stay the same six. */
    private static void callsThatThrowSaveNothing() {
        Check.Maker maker = () -> {
            MirrorCards x = new MirrorCards();
            for (int i = 0; i < 7; i++) {
                x.punch(0, i, i);
            }
            x.close(0);
            Check.type(x, "v");
            return x;
        };
        CHECK.refusedByTwin("punch", Check.STATE, maker, x -> x.punch(0, 0, 0));
        CHECK.refusedByTwin("punch", Check.ARGUMENT, maker, x -> x.punch(1, 0, 128));
        CHECK.refusedByTwin("punch", Check.INDEX, maker, x -> x.punch(1, 7, 0));
        CHECK.refusedByTwin("close", Check.STATE, maker, x -> x.close(0));
        CHECK.refusedByTwin("close", Check.INDEX, maker, x -> x.close(3));
        CHECK.refusedByTwin("renew", Check.INDEX, maker, x -> x.renew(3));
        CHECK.refusedByTwin("copy", Check.INDEX, maker, x -> x.copy(0, 3));
        CHECK.refusedByTwin("copy", Check.ARGUMENT, maker, x -> x.copy(0, 0));
        CHECK.refusedByTwin("wear", Check.STATE, maker, x -> x.wear(0, 6, 4));
        CHECK.refusedByTwin("wear", Check.INDEX, maker, x -> x.wear(0, 8, 0));
        CHECK.refusedByTwin("lose", Check.STATE, maker, x -> x.lose(0, 0, 0));
        CHECK.refusedByTwin("lose", Check.INDEX, maker, x -> x.lose(0, 0, 8));
        CHECK.refusedByTwin("turn", Check.ARGUMENT, maker, x -> x.turn(0, 4));
        CHECK.refusedByTwin("turn", Check.INDEX, maker, x -> x.turn(-1, 0));
        CHECK.refusedByTwin("run", Check.ARGUMENT, maker, MirrorCards::run);
        CHECK.refusedByTwin("append", Check.ARGUMENT, maker, x -> x.append(127));
    }

    private static void undoRestoresAllCards() {
        for (int card = 0; card < 3; card++) {
            MirrorCards x = new MirrorCards();
            for (int each = 0; each < 3; each++) {
                x.punch(each, 0, 50 + each);
            }
            x.turn(0, 1);
            x.turn(1, 2);
            x.turn(2, 3);
            long digest = x.digest();
            x.renew(card);
            x.undo();
            CHECK.same("digest after the undo of renew(" + card + ")", digest, x.digest());
            x.copy(card, (card + 1) % 3);
            x.undo();
            CHECK.same("digest after the undo of copy of " + card, digest, x.digest());
            x.undo();
            CHECK.same("view(2)", 0, x.view(2));
            CHECK.same("view(1)", 2, x.view(1));
        }
    }

    /** What is undone can't come back, and new states come in its place. */
    private static void statesSavedBehindUndo() {
        MirrorCards x = new MirrorCards();
        for (int i = 0; i < 8; i++) {
            x.wear(0, 0, i);
        }
        x.undo();
        x.undo();
        CHECK.same("savedStates", 4, x.savedStates());
        x.wear(0, 7, 0);
        x.wear(0, 7, 1);
        x.wear(0, 7, 2);
        CHECK.same("savedStates", 6, x.savedStates());
        int[] raw = {192, 128, 0, 0, 0, 0};
        int[] first = {252, 252, 252, 248, 240, 224};
        for (int i = 0; i < 6; i++) {
            CHECK.same("undo", 5 - i, x.undo());
            CHECK.same("row 7", raw[i], x.raw(0, 7));
            CHECK.same("row 0", first[i], x.raw(0, 0));
        }
        CHECK.refused(x, "one undo more", Check.STATE, x::undo);
    }

    /** "The state consists of everything except the buffer and the saved states." */
    private static void theBufferIsNoState() {
        MirrorCards x = new MirrorCards();
        Check.type(x, "v1");
        x.turn(0, 2);
        x.clearText();
        CHECK.same("undo", 0, x.undo());
        CHECK.same("what is cleared stays cleared", 0, x.clearText());
        x.turn(0, 2);
        Check.type(x, "c".repeat(60));
        CHECK.same("undo with a full buffer", 0, x.undo());
        CHECK.refused(x, "append to it", Check.STATE, () -> x.append('c'));
        CHECK.same("clearText", 60, x.clearText());
    }

    /** "the hash becomes 31 * hash + v, in long arithmetic with overflow": the whole number, cut to 64 bits. */
    private static BigInteger wholeHash(MirrorCards x) {
        BigInteger hash = BigInteger.valueOf(4876);
        for (int card = 0; card < 3; card++) {
            hash = mixed(hash, x.view(card), x.count(card, 0), x.count(card, 1), x.count(card, 2), x.count(card, 3));
            hash = mixed(hash, x.untold(card), x.disagreements(card), x.worst(card));
            for (int row = 0; row <= 7; row++) {
                hash = mixed(hash, x.raw(card, row));
            }
            for (int row = 0; row <= 6; row++) {
                hash = mixed(hash, x.read(card, row), x.value(card, row));
            }
            for (int row = 0; row <= 7; row++) {
                for (int column = 0; column <= 7; column++) {
                    hash = mixed(hash, x.kind(card, row, column), x.told(card, row, column));
                }
            }
        }
        return hash;
    }

    private static BigInteger mixed(BigInteger hash, int... values) {
        BigInteger result = hash;
        for (int value : values) {
            result = result.multiply(BigInteger.valueOf(31)).add(BigInteger.valueOf(value));
        }
        return result;
    }

    private static void hashIsWhole(String what, MirrorCards x) {
        long digest = x.digest();
        BigInteger whole = wholeHash(x);
        CHECK.isTrue(what + ": the hash is beyond a long", whole.bitLength() > 2000);
        CHECK.same(what + ": digest", whole.longValue(), digest);
        CHECK.same(what + ": digest again", digest, x.digest());
    }

    private static void theHashOverflows() {
        hashIsWhole("a new object", new MirrorCards());
        for (int card = 0; card < 3; card++) {
            MirrorCards x = new MirrorCards();
            Check.punchEach(x, card, 127 - 63 * card);
            hashIsWhole("a closed card " + card, x);
        }
    }

    private static void digestOfEachView() {
        for (int card = 0; card < 3; card++) {
            for (int view = 0; view < 4; view++) {
                MirrorCards x = new MirrorCards();
                x.punch(card, 1, 77);
                x.turn(card, view);
                hashIsWhole("the view " + view, x);
            }
        }
    }

    /** Each cell of each card counts, with each kind. */
    private static void digestHasEachCell() {
        for (int cell = 0; cell < 64; cell++) {
            for (int kind = 0; kind < 4; kind++) {
                MirrorCards x = new MirrorCards();
                Check.punchAll(x, cell % 3);
                Check.makeKind(x, cell % 3, cell / 8, cell % 8, kind);
                Check.makeKind(x, cell % 3, (cell / 8 + 1) % 8, cell % 8, 2);
                hashIsWhole("the kind " + kind + " at " + cell, x);
            }
        }
    }

    /** "An object is used for at most 512 calls": the last of them answers as the first. */
    private static void theLastOf512Calls() {
        MirrorCards x = new MirrorCards();
        for (int call = 1; call <= 510; call++) {
            CHECK.same("turn, call " + call, (call - 1) % 4, x.turn(0, call % 4));
        }
        CHECK.same("undo, call 511", 5, x.undo());
        CHECK.same("view, call 512", 509 % 4, x.view(0));

        MirrorCards y = new MirrorCards();
        for (int call = 1; call <= 480; call++) {
            if (call % 61 == 0) {
                CHECK.same("clearText, call " + call, 60, y.clearText());
            } else {
                CHECK.same("append, call " + call, call % 61, y.append(126));
            }
        }
        for (int call = 481; call <= 511; call++) {
            CHECK.same("digest, call " + call, 183147228821064745L, y.digest());
        }
        CHECK.same("firstError, call 512", 0, y.firstError());
    }
}
