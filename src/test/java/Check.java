/** Compares answers with those that are due, and ends the test with exit code 1 if one was wrong. */
final class Check {
    static final String INDEX = "IndexOutOfBoundsException";
    static final String ARGUMENT = "IllegalArgumentException";
    static final String STATE = "IllegalStateException";

    /** A call of which only its exception is of interest. */
    interface Call {
        void go();
    }

    /** Makes an object by the same calls each time, so that what a call does can be held against its twin. */
    interface Maker {
        MirrorCards make();
    }

    /** A call on an object, with its answer. */
    interface CallOn {
        Object on(MirrorCards cards);
    }

    static final String NOTHING = "nothing";

    /** Far more than a test needs on a slow machine. */
    private static final long MILLISECONDS_OF_A_TEST = 300_000;

    private int wrong;
    private int asked;

    /** A call that does not end fails the test, and does not keep .ci/run waiting. */
    Check() {
        Thread watch = new Thread(Check::endLate);
        watch.setDaemon(true);
        watch.start();
    }

    private static void endLate() {
        try {
            Thread.sleep(MILLISECONDS_OF_A_TEST);
            System.out.println("a call did not end");
            Runtime.getRuntime().halt(1);
        } catch (InterruptedException e) {
            // then the test goes on without a watch
        }
    }

    void same(String what, long want, long got) {
        asked++;
        if (want != got) {
            wrong++;
            System.out.println(what + " answered " + got + ", due is " + want);
        }
    }

    void same(String what, String want, String got) {
        asked++;
        if (!want.equals(got)) {
            wrong++;
            System.out.println(what + " gave " + got + ", due is " + want);
        }
    }

    void isTrue(String what, boolean got) {
        same(what, 1, got ? 1 : 0);
    }

    void isFalse(String what, boolean got) {
        same(what, 0, got ? 1 : 0);
    }

    /** The call throws just this exception, and changes neither the state nor the saved states. */
    void refused(MirrorCards cards, String what, String exception, Call call) {
        long digest = cards.digest();
        int saved = cards.savedStates();
        same(what, exception, thrownBy(call));
        same(what + ", then digest", digest, cards.digest());
        same(what + ", then savedStates", saved, cards.savedStates());
    }

    static String thrownBy(Call call) {
        try {
            call.go();
            return NOTHING;
        } catch (RuntimeException e) {
            return e.getClass().getSimpleName();
        }
    }

    /** Like refused, but looks at everything: the saved states one by one, and the text, by running it. */
    void refusedByTwin(String what, String exception, Maker maker, CallOn call) {
        MirrorCards undone = maker.make();
        MirrorCards run = maker.make();
        same(what, exception, thrownBy(() -> call.on(undone)));
        isTrue(what + " is thrown by the program itself", isThrownByTheProgram(() -> call.on(run)));
        same(what + ", then the saved states", historyOf(maker.make()), historyOf(undone));
        same(what + ", then the text", textOf(maker.make()), textOf(run));
    }

    /** Whether a throw of the program made the exception, and not the machine or its library. */
    static boolean isThrownByTheProgram(Call call) {
        try {
            call.go();
            return false;
        } catch (RuntimeException e) {
            StackTraceElement[] trace = e.getStackTrace();
            return trace.length > 0 && trace[0].getClassName().startsWith("MirrorCards");
        }
    }

    /** The state and all saved ones, which are used up by this. */
    static String historyOf(MirrorCards cards) {
        StringBuilder history = new StringBuilder();
        history.append(cards.savedStates()).append(':').append(cards.digest());
        // more than can be saved, so that a wrong number of states is told too
        for (int i = 0; i < 9 && cards.savedStates() > 0; i++) {
            history.append(' ').append(cards.undo()).append(':').append(cards.digest());
        }
        return history.toString();
    }

    /** What can be found out of the buffer, which is used up by this. */
    static String textOf(MirrorCards cards) {
        StringBuilder answers = new StringBuilder();
        answers.append(cards.firstError()).append(' ').append(answer(cards, MirrorCards::run));
        answers.append(' ').append(cards.digest()).append(' ').append(cards.clearText());
        return answers.toString();
    }

    /** The answer of a call as a text, or the name of what it throws. */
    static String answer(MirrorCards cards, CallOn call) {
        try {
            return String.valueOf(call.on(cards));
        } catch (RuntimeException e) {
            return e.getClass().getSimpleName();
        }
    }

    void end() {
        System.out.println(asked + " answers, " + wrong + " wrong");
        if (wrong != 0) {
            System.exit(1);
        }
    }

    // ---- what several tests make

    static final int[] VALUES = {127, 0, 85, 42, 99, 1, 64};

    /** A card with the seven values, closed. */
    static void punchAll(MirrorCards cards, int card) {
        for (int row = 0; row < VALUES.length; row++) {
            cards.punch(card, row, VALUES[row]);
        }
        cards.close(card);
    }

    /** A card with the same value in the rows 0 to 6, closed: 127 makes ones of all 64 cells, 0 zeros. */
    static void punchEach(MirrorCards cards, int card, int value) {
        for (int row = 0; row < 7; row++) {
            cards.punch(card, row, value);
        }
        cards.close(card);
    }

    /** Gives a cell this kind, by the card's front and back; the card lies in the view 0 then. */
    static void makeKind(MirrorCards cards, int card, int row, int column, int kind) {
        int before = cards.kind(card, row, column);
        cards.turn(card, 0);
        makeHole(cards, card, row, column, hasFront(before), hasFront(kind));
        if (hasBack(before) != hasBack(kind)) {
            cards.turn(card, 2);
            makeHole(cards, card, row, 7 - column, hasBack(before), hasBack(kind));
            cards.turn(card, 0);
        }
    }

    private static boolean hasFront(int kind) {
        return kind == 1 || kind == 3;
    }

    private static boolean hasBack(int kind) {
        return kind == 0 || kind == 3;
    }

    private static void makeHole(MirrorCards cards, int card, int row, int column, boolean before, boolean hole) {
        if (hole && !before) {
            cards.wear(card, row, column);
        }
        if (!hole && before) {
            cards.lose(card, row, column);
        }
    }

    static void type(MirrorCards cards, String text) {
        for (int i = 0; i < text.length(); i++) {
            cards.append(text.charAt(i));
        }
    }

    /** Loses the only hole of a sound cell of a card in the view 0. */
    static void blankOut(MirrorCards cards, int card, int row, int column) {
        boolean one = cards.kind(card, row, column) == 1;
        cards.turn(card, one ? 0 : 2);
        cards.lose(card, row, one ? column : 7 - column);
        cards.turn(card, 0);
    }
}
