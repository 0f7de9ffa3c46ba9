/** Compares answers with those that are due, and ends the test with exit code 1 if one was wrong. */
final class Check {
    static final String INDEX = "IndexOutOfBoundsException";
    static final String ARGUMENT = "IllegalArgumentException";
    static final String STATE = "IllegalStateException";

    /** A call of which only its exception is of interest. */
    interface Call {
        void go();
    }

    private int wrong;
    private int asked;

    void same(String what, long want, long got) {
        asked++;
        if (want != got) {
            wrong++;
            System.out.println(what + " answered " + got + ", due is " + want);
        }
    }

    void same(String what, String want, String got) {
        asked++;
        if (!want.equals(got)) {
            wrong++;
            System.out.println(what + " gave " + got + ", due is " + want);
        }
    }

    void isTrue(String what, boolean got) {
        same(what, 1, got ? 1 : 0);
    }

    void isFalse(String what, boolean got) {
        same(what, 0, got ? 1 : 0);
    }

    /** The call throws just this exception, and changes neither the state nor the saved states. */
    void refused(MirrorCards cards, String what, String exception, Call call) {
        long digest = cards.digest();
        int saved = cards.savedStates();
        same(what, exception, thrownBy(call));
        same(what + ", then digest", digest, cards.digest());
        same(what + ", then savedStates", saved, cards.savedStates());
    }

    static String thrownBy(Call call) {
        try {
            call.go();
            return "nothing";
        } catch (RuntimeException e) {
            return e.getClass().getSimpleName();
        }
    }

    void end() {
        System.out.println(asked + " answers, " + wrong + " wrong");
        if (wrong != 0) {
            System.exit(1);
        }
    }

    // ---- what several tests make

    static final int[] VALUES = {127, 0, 85, 42, 99, 1, 64};

    /** A card with the seven values, closed. */
    static void punchAll(MirrorCards cards, int card) {
        for (int row = 0; row < VALUES.length; row++) {
            cards.punch(card, row, VALUES[row]);
        }
        cards.close(card);
    }

    static void type(MirrorCards cards, String text) {
        for (int i = 0; i < text.length(); i++) {
            cards.append(text.charAt(i));
        }
    }

    /** Loses the only hole of a sound cell of a card in the view 0. */
    static void blankOut(MirrorCards cards, int card, int row, int column) {
        boolean one = cards.kind(card, row, column) == 1;
        cards.turn(card, one ? 0 : 2);
        cards.lose(card, row, one ? column : 7 - column);
        cards.turn(card, 0);
    }
}
