/** Promises 24 to 27: append, clearText, firstError, run. */
public final class WorkTextTest {
    private static final Check CHECK = new Check();

    public static void main(String[] args) {
        appendAndClear();
        appendRefused();
        firstError();
        firstErrorOfAFullBuffer();
        completeTexts();
        run();
        runStops();
        runRefused();
        runHasPlacesOfTheCard();
        CHECK.end();
    }

    private static void appendAndClear() {
        MirrorCards x = new MirrorCards();
        CHECK.same("clearText of an empty buffer", 0, x.clearText());
        for (int i = 1; i <= 60; i++) {
            CHECK.same("append", i, x.append(i % 2 == 0 ? 33 : 126));
        }
        CHECK.same("savedStates", 0, x.savedStates());
        CHECK.same("clearText", 60, x.clearText());
        CHECK.same("clearText again", 0, x.clearText());
        CHECK.same("append", 1, x.append('c'));
        CHECK.same("run of what is left", 0, x.run());
    }

    private static void appendRefused() {
        MirrorCards x = new MirrorCards();
        x.append('c');
        for (int code : new int[] {32, 127, 0, -1, 128, Integer.MIN_VALUE, Integer.MAX_VALUE, 65536 + 'c'}) {
            CHECK.refused(x, "append(" + code + ")", Check.ARGUMENT, () -> x.append(code));
        }
        CHECK.same("append(33)", 2, x.append(33));
        CHECK.same("append(126)", 3, x.append(126));
        for (int i = 3; i < 60; i++) {
            x.append('c');
        }
        CHECK.refused(x, "append to a full buffer", Check.STATE, () -> x.append('c'));
        CHECK.refused(x, "append(32) to a full buffer", Check.ARGUMENT, () -> x.append(32));
        CHECK.same("clearText", 60, x.clearText());
    }

    private static void firstErrorIs(String text, int want) {
        MirrorCards x = new MirrorCards();
        Check.type(x, text);
        CHECK.same("firstError of " + text, want, x.firstError());
        CHECK.same("firstError of " + text + " again", want, x.firstError());
        CHECK.same("clearText of " + text, text.length(), x.clearText());
    }

    private static void firstError() {
        String[] beginnings = {
            "", "p", "p0", "p6", "p0=", "p0=0", "p0=9", "p0=10", "p0=99", "p0=100", "p0=119", "p0=120", "p0=127",
            "p0=1;", "p0=0;c", "c", "c;", "c;c", "w", "x", "wf", "wb", "xf", "xb", "wf0", "xb7", "wf07", "xb70",
            "wf00;", "v", "v0", "v3", "v3;v", "c;p1=7;wb33;xf44;v2"
        };
        for (String beginning : beginnings) {
            firstErrorIs(beginning, beginning.length());
            firstErrorIs(beginning + "!", beginning.length());
            firstErrorIs(beginning + "~c", beginning.length());
        }
        String[] wrong = {
            "p7", "p=", "p0;", "p00", "p/", "p:", "p0=;", "p0=-", "p0=/", "p0=:", "p0=1:", "p0=1/", "p0=11:",
            "p0=00", "p0=01", "p0=128", "p0=129", "p0=130",
            "p0=200", "p0=1000", "p0=127;;", "p0=0=", "p0==", "cc", "c0", ";", "c;;", "wf8", "wf08", "wf/", "wf0:",
            "wf0;", "wf;", "w0", "w;", "wa", "wc", "wF", "xx", "wf000", "v4", "v;", "v/", "v00", "vf", "0", "P", "f",
            "=", "b", "C"
        };
        for (String text : wrong) {
            firstErrorIs(text, text.length() - 1);
            firstErrorIs(text + ";c", text.length() - 1);
        }
        firstErrorIs("!p0=1", 0);
        firstErrorIs("p0=1!p", 4);
    }

    /** A work text may be longer than the buffer. */
    private static void firstErrorOfAFullBuffer() {
        StringBuilder text = new StringBuilder();
        while (text.length() < 56) {
            text.append("c;");
        }
        firstErrorIs(text + "p0=1", 60);
        firstErrorIs(text + "p0=;", 59);
        firstErrorIs(text + "c;c;", 60);
        firstErrorIs(text + "c;wf", 60);
    }

    private static void completeTexts() {
        String[] whole = {"c", "v0", "p0=0", "p0=1", "p6=127", "wf00", "xb77", "c;c", "v1;p0=12", "p0=1;c"};
        for (String text : whole) {
            MirrorCards x = new MirrorCards();
            Check.type(x, text);
            CHECK.same("run of " + text, "nothing", Check.thrownBy(x::run));
            CHECK.same("clearText after " + text, 0, x.clearText());
            CHECK.same("savedStates after " + text, 1, x.savedStates());
        }
    }

    private static void run() {
        MirrorCards x = new MirrorCards();
        Check.type(x, "p0=127;p1=0;p2=85;p3=42;p4=99;p5=1;p6=64;c;v3");
        CHECK.same("run", 9, x.run());
        for (int row = 0; row < 7; row++) {
            CHECK.same("read(0, " + row + ")", Check.VALUES[row], x.read(0, row));
        }
        CHECK.same("view", 3, x.view(0));
        CHECK.same("disagreements", 0, x.disagreements(0));
        CHECK.same("zeros and ones", 64, x.count(0, 0) + x.count(0, 1));
        CHECK.same("the card 1", 64, x.count(1, 2));
        CHECK.same("the card 2", 64, x.count(2, 2));
        CHECK.same("savedStates", 1, x.savedStates());
        CHECK.same("clearText", 0, x.clearText());
        CHECK.same("undo", 0, x.undo());
        CHECK.same("undo takes back all parts", 183147228821064745L, x.digest());
        CHECK.same("undo leaves the buffer", 0, x.clearText());
    }

    private static void runs(MirrorCards x, String text, int want) {
        Check.type(x, text);
        CHECK.same("run of " + text, want, x.run());
        CHECK.same("firstError after " + text, 0, x.firstError());
    }

    private static void runStops() {
        MirrorCards x = new MirrorCards();
        runs(x, "p0=5;p0=5;p1=5", 1);
        CHECK.same("what is behind is not done", -1, x.read(0, 1));
        runs(x, "c;v1", 0);
        CHECK.same("savedStates after no part", 2, x.savedStates());
        CHECK.same("view", 0, x.view(0));
        runs(x, "xf00;v1", 0);
        runs(x, "wf04;wf04;v1", 0);
        runs(x, "wb04;wf04;v1", 1);
        CHECK.same("savedStates", 5, x.savedStates());
        CHECK.same("kind of a cell", 3, x.kind(0, 0, 4));
        runs(x, "xf04;xf04;v1", 1);
        CHECK.same("kind then", 0, x.kind(0, 0, 4));
        runs(x, "xb04;xb04;v1", 1);
        CHECK.same("kind then", 2, x.kind(0, 0, 4));
        runs(x, "wb04;wb04;v1", 1);
        CHECK.same("kind then", 0, x.kind(0, 0, 4));
        CHECK.same("savedStates", 6, x.savedStates());
        CHECK.same("view", 0, x.view(0));
        CHECK.same("undo", 5, x.undo());
        CHECK.same("kind after undo", 2, x.kind(0, 0, 4));
        runs(x, "v0;v0;v2;v2", 4);
        CHECK.same("view then", 2, x.view(0));
    }

    private static void runRefused() {
        String[] partial = {"", "p", "p0", "p0=", "w", "wf", "wf0", "v", "v1;", "c;", "p0=1;", "p0=1;p", "p0=128",
            "v1;!", "cc", "!", "p0=1;p0=01", "wf00;xf08"};
        for (String text : partial) {
            MirrorCards x = new MirrorCards();
            x.turn(0, 2);
            Check.type(x, text);
            CHECK.refused(x, "run of " + text, Check.ARGUMENT, x::run);
            CHECK.same("clearText after the run of " + text, text.length(), x.clearText());
        }
        MirrorCards y = new MirrorCards();
        Check.type(y, "v1;");
        CHECK.refused(y, "run", Check.ARGUMENT, y::run);
        Check.type(y, "v3");
        CHECK.same("run when the text is whole", 2, y.run());
        CHECK.same("view", 3, y.view(0));
    }

    private static void runHasPlacesOfTheCard() {
        for (int view = 0; view < 4; view++) {
            MirrorCards x = new MirrorCards();
            runs(x, "v" + view + ";wf12;wb12;wb34;wf56;xb12", 6);
            CHECK.same("kind(0, 1, 2)", 1, x.kind(0, 1, 2));
            CHECK.same("kind(0, 3, 4)", 0, x.kind(0, 3, 4));
            CHECK.same("kind(0, 5, 6)", 1, x.kind(0, 5, 6));
            CHECK.same("blank cells", 61, x.count(0, 2));
        }
    }
}
