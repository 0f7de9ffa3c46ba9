/** The boundary cases that the document names for append, clearText, firstError and run, one by one. */
public final class WorkTextEdgesTest {
    private static final Check CHECK = new Check();

    private static final String DIGITS = "0123456789";

    /** What a text can begin with, and each character that a work text can go on with behind it. */
    private static final String[][] NEXT = {
        {"", "pcwxv"}, {"c;", "pcwxv"}, {"p0=0;", "pcwxv"}, {"p6=127;", "pcwxv"}, {"wf00;", "pcwxv"},
        {"xb77;", "pcwxv"}, {"v3;", "pcwxv"}, {"c;v1;p0=1;", "pcwxv"},
        {"p", "0123456"}, {"c;p", "0123456"}, {"p0", "="}, {"p3", "="}, {"p6", "="}, {"p0=", DIGITS}, {"p6=", DIGITS},
        {"p0=0", ";"}, {"p0=1", DIGITS + ";"}, {"p0=2", DIGITS + ";"}, {"p0=9", DIGITS + ";"},
        {"p0=10", DIGITS + ";"}, {"p0=11", DIGITS + ";"}, {"p0=12", "01234567;"}, {"p0=13", ";"}, {"p0=19", ";"},
        {"p0=20", ";"}, {"p0=90", ";"}, {"p0=99", ";"}, {"p0=100", ";"}, {"p0=109", ";"}, {"p0=119", ";"},
        {"p0=120", ";"}, {"p0=126", ";"}, {"p6=127", ";"}, {"c;p0=0", ";"}, {"p0=5;p0=0", ";"},
        {"c", ";"}, {"v1;c", ";"},
        {"w", "fb"}, {"x", "fb"}, {"wf", "01234567"}, {"wb", "01234567"}, {"xf", "01234567"}, {"xb", "01234567"},
        {"wf0", "01234567"}, {"wb7", "01234567"}, {"xf7", "01234567"}, {"xb0", "01234567"},
        {"wf00", ";"}, {"wb77", ";"}, {"xf07", ";"}, {"xb70", ";"},
        {"v", "0123"}, {"v0", ";"}, {"v3", ";"}, {"p0=1;v", "0123"}
    };

    public static void main(String[] args) {
        eachCode();
        bufferFromEmptyToFull();
        clearTextOfEachLength();
        firstErrorOfEmptyAndFull();
        eachCharacterBehindEachBeginning();
        theFirstOfSeveralErrors();
        eachValueAsText();
        eachPlaceAsText();
        runNeedsAWholeText();
        runOfAFullBuffer();
        runStopsAtEachPartThatIsNotPossible();
        runSavesOneState();
        runDoesTheCardZero();
        CHECK.end();
    }

    /** "a character code, 33 to 126": each of them is in the buffer then. */
    private static void eachCode() {
        for (int code = -300; code <= 700; code++) {
            MirrorCards x = new MirrorCards();
            int each = code;
            if (code < 33 || code > 126) {
                CHECK.refusedByTwin("append(" + code + ")", Check.ARGUMENT, MirrorCards::new, y -> y.append(each));
            } else {
                CHECK.same("append(" + code + ")", 1, x.append(code));
                CHECK.same("append of one more", 2, x.append(code));
                CHECK.same("clearText", 2, x.clearText());
            }
        }
    }

    /** "The buffer contains at most 60 characters and is empty at first"; "Returns the new length of the buffer." */
    private static void bufferFromEmptyToFull() {
        MirrorCards x = new MirrorCards();
        CHECK.same("firstError of the empty buffer", 0, x.firstError());
        for (int length = 1; length <= 60; length++) {
            CHECK.same("append", length, x.append('!'));
        }
        CHECK.refused(x, "append of one too many", Check.STATE, () -> x.append('!'));
        CHECK.refused(x, "append of one too many, and out of range", Check.ARGUMENT, () -> x.append(127));
        CHECK.refused(x, "append of one too many, and out of range", Check.ARGUMENT, () -> x.append(32));
        CHECK.same("clearText, the length is as before", 60, x.clearText());
        CHECK.same("append behind clearText", 1, x.append('!'));
    }

    private static void clearTextOfEachLength() {
        for (int length = 0; length <= 60; length++) {
            MirrorCards x = new MirrorCards();
            Check.type(x, "c".repeat(length));
            CHECK.same("clearText", length, x.clearText());
            CHECK.same("clearText of the empty buffer", 0, x.clearText());
            CHECK.same("savedStates", 0, x.savedStates());
        }
    }

    private static int firstError(String text) {
        MirrorCards x = new MirrorCards();
        Check.type(x, text);
        return x.firstError();
    }

    /** "the length of the buffer if there is none (also if the buffer is not a complete work text)". */
    private static void firstErrorOfEmptyAndFull() {
        CHECK.same("firstError of no character", 0, firstError(""));
        String almost = "v1;".repeat(18);
        CHECK.same("a whole text of 60", 60, firstError(almost + "p0=127"));
        CHECK.same("a part that would end behind the 60th", 60, firstError(almost + "c;c;p0"));
        CHECK.same("a value that could go on behind the 60th", 60, firstError(almost + "c;p0=1"));
        CHECK.same("a separator as the 60th", 60, firstError(almost + "v1;v1;"));
        CHECK.same("an error as the 60th", 59, firstError(almost + "p0=128"));
        CHECK.same("an error as the 60th", 59, firstError(almost + "v1;v1!"));
        CHECK.same("an error as the first of 60", 0, firstError("!" + "v1;".repeat(19) + "v1"));
    }

    /** "an error if no work text, however long, begins with the characters before it and this character". */
    private static void eachCharacterBehindEachBeginning() {
        for (String[] next : NEXT) {
            String before = next[0];
            CHECK.same("firstError of " + before, before.length(), firstError(before));
            for (char code = 33; code <= 126; code++) {
                String text = before + code;
                int due = next[1].indexOf(code) >= 0 ? text.length() : before.length();
                CHECK.same("firstError of " + text, due, firstError(text));
            }
        }
    }

    private static void theFirstOfSeveralErrors() {
        CHECK.same("errors at 0, 1 and 2", 0, firstError("!!!"));
        CHECK.same("errors at 1 and 2", 1, firstError("c!!"));
        CHECK.same("an error, and a work text behind it", 4, firstError("v1;p7;v1"));
        CHECK.same("an error in the second part", 5, firstError("v1;wf8;c"));
        MirrorCards x = new MirrorCards();
        Check.type(x, "v1;v");
        CHECK.same("firstError changes nothing", 4, x.firstError());
        x.append('4');
        CHECK.same("firstError with one more", 4, x.firstError());
        x.append('1');
        CHECK.same("firstError with two more", 4, x.firstError());
        CHECK.refused(x, "run", Check.ARGUMENT, x::run);
        CHECK.same("clearText", 6, x.clearText());
    }

    /** "a row from 0 to 6, "=", and a value from 0 to 127 without leading zeros". */
    private static void eachValueAsText() {
        for (int value = 0; value <= 1300; value++) {
            MirrorCards x = new MirrorCards();
            int row = value % 7;
            Check.type(x, "p" + row + "=" + value);
            if (value <= 127) {
                CHECK.same("run of the value " + value, 1, x.run());
                CHECK.same("read", value, x.read(0, row));
            } else {
                CHECK.refused(x, "run of the value " + value, Check.ARGUMENT, x::run);
                CHECK.same("firstError of the value " + value, value < 1000 || value >= 1280 ? 5 : 6, x.firstError());
            }
        }
        for (String value : new String[] {"00", "01", "09", "000", "007", "0127", "012"}) {
            MirrorCards x = new MirrorCards();
            Check.type(x, "p1=" + value);
            CHECK.same("firstError of the value " + value, 4, x.firstError());
            CHECK.refused(x, "run of the value " + value, Check.ARGUMENT, x::run);
        }
    }

    /** "a row and a column (a digit from 0 to 7 each)", "those of the card, whatever its view is". */
    private static void eachPlaceAsText() {
        for (int place = 0; place < 64; place++) {
            for (int view = 0; view < 4; view++) {
                String where = "" + place / 8 + place % 8;
                MirrorCards x = new MirrorCards();
                x.turn(0, view);
                kindAfter(x, "wf" + where, place, 1);
                kindAfter(x, "wb" + where, place, 3);
                kindAfter(x, "xf" + where, place, 0);
                kindAfter(x, "xb" + where, place, 2);
                CHECK.same("view", view, x.view(0));
            }
        }
    }

    private static void kindAfter(MirrorCards x, String text, int place, int kind) {
        Check.type(x, text);
        CHECK.same("run of " + text, 1, x.run());
        CHECK.same("kind after " + text, kind, x.kind(0, place / 8, place % 8));
        CHECK.same("blank cells after " + text, kind == 2 ? 64 : 63, x.count(0, 2));
    }

    /** "IllegalArgumentException if the buffer is not a complete work text (the buffer stays)". */
    private static void runNeedsAWholeText() {
        for (String[] next : NEXT) {
            String text = next[0];
            Check.Maker maker = () -> {
                MirrorCards x = new MirrorCards();
                x.punch(1, 1, 1);
                Check.type(x, text);
                return x;
            };
            if (next[1].indexOf(';') >= 0) {
                CHECK.same("run of " + text, Check.NOTHING, Check.thrownBy(maker.make()::run));
            } else {
                CHECK.refusedByTwin("run of " + text, Check.ARGUMENT, maker, MirrorCards::run);
                MirrorCards x = maker.make();
                CHECK.refused(x, "run of " + text, Check.ARGUMENT, x::run);
                CHECK.same("clearText behind run", text.length(), x.clearText());
            }
        }
    }

    private static void runOfAFullBuffer() {
        MirrorCards x = new MirrorCards();
        Check.type(x, "v1;".repeat(18) + "p0=127");
        CHECK.same("run of 60 characters", 19, x.run());
        CHECK.same("the last part is done", 127, x.read(0, 0));
        CHECK.same("the buffer is empty", 0, x.clearText());
        Check.type(x, "v1;".repeat(19) + "v2;");
        CHECK.refused(x, "run of 60 characters with an open end", Check.ARGUMENT, x::run);
        CHECK.refused(x, "append then", Check.STATE, () -> x.append('c'));
        CHECK.same("the buffer stays", 60, x.clearText());
        Check.type(x, "v3;".repeat(19) + "v0");
        CHECK.same("run of 59 characters", 20, x.run());
        CHECK.same("the last part is done", 0, x.view(0));
    }

    /** "up to the first one that is not possible (because punch() or close() would throw ...". */
    private static void runStopsAtEachPartThatIsNotPossible() {
        stops("p0=1", "p0=1;v3", 0);
        stops("wb07", "p0=1;v3", 0);
        stops("p0=1", "v1;p0=1;v3", 1);
        stops("p0=1", "p1=1;p1=2;v3", 1);
        stops("p0=1", "c;v3", 0);
        stops("p0=0;p1=1;p2=2;p3=3;p4=4;p5=5;p6=6;c", "v2;c;v3", 1);
        stops("p0=0;p1=1;p2=2;p3=3;p4=4;p5=5;p6=6;wf77", "c;v3", 0);
        stops("p0=0;p1=1;p2=2;p3=3;p4=4;p5=5;p6=6;wf00", "c;v3", 0);
        stops("wf33", "wf33;v3", 0);
        stops("wf33", "wb33;wb33;v3", 1);
        stops("wf33", "xb33;v3", 0);
        stops("wf33", "xf33;xf33;v3", 1);
        stops("wb33", "xf33;v3", 0);
        stops("v1", "v1;v0;v2;v2;xf00;v3", 4);
        stops("v1", "v1;v0;v2;v2;wf00;xb00", 5);
    }

    /** Runs both texts; of the second, as many parts as due, one saved state, and nothing behind. */
    private static void stops(String before, String text, int due) {
        MirrorCards x = new MirrorCards();
        Check.type(x, before);
        x.run();
        long digest = x.digest();
        int saved = x.savedStates();
        Check.type(x, text);
        CHECK.same("run of " + text, due, x.run());
        CHECK.same("savedStates after " + text, saved + 1, x.savedStates());
        CHECK.same("the buffer after " + text, 0, x.clearText());
        CHECK.isTrue("the view after " + text, x.view(0) != 3);

        MirrorCards parts = new MirrorCards();
        Check.type(parts, before);
        parts.run();
        String[] all = text.split(";");
        for (int part = 0; part < due; part++) {
            Check.type(parts, all[part]);
            CHECK.same("run of " + all[part] + " alone", 1, parts.run());
        }
        CHECK.same("digest after " + text, parts.digest(), x.digest());
        CHECK.same("undo of " + text, saved, x.undo());
        CHECK.same("digest after the undo of " + text, digest, x.digest());
    }

    /** "Undoable, as one call, also if no part is done." */
    private static void runSavesOneState() {
        MirrorCards x = new MirrorCards();
        long blank = x.digest();
        Check.type(x, "c;c;c");
        CHECK.same("run of no part", 0, x.run());
        CHECK.same("savedStates", 1, x.savedStates());
        CHECK.same("undo", 0, x.undo());
        Check.type(x, "p0=0;p1=1;p2=2;p3=3;p4=4;p5=5;p6=6;c;v3;xf00");
        CHECK.same("run of nine parts", 9, x.run());
        CHECK.same("savedStates", 1, x.savedStates());
        CHECK.same("undo", 0, x.undo());
        CHECK.same("digest", blank, x.digest());
        CHECK.same("the buffer after undo", 0, x.clearText());
        for (int i = 1; i <= 8; i++) {
            x.append('c');
            x.run();
            CHECK.same("savedStates after runs", Math.min(i, 6), x.savedStates());
        }
    }

    /** "which are all for the card 0". */
    private static void runDoesTheCardZero() {
        MirrorCards x = new MirrorCards();
        x.turn(1, 1);
        x.turn(2, 2);
        Check.type(x, "v3;wf77;xf77;p0=127;p1=127;p2=127;p3=0;p4=0;p5=0;p6=0;c");
        CHECK.same("run", 11, x.run());
        for (int card = 0; card < 3; card++) {
            CHECK.same("blank cells of " + card, card == 0 ? 0 : 64, x.count(card, 2));
            CHECK.same("view(" + card + ")", card == 0 ? 3 : card, x.view(card));
        }
        CHECK.same("the check row", 8, 64 - x.count(0, 0) - 24);
    }
}
