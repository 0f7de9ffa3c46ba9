import java.util.Random;

/** Runs of random calls, with fixed seeds, on the program and on the plain model. */
public final class ModelTest {
    /** What an object answers behind its 512th call is free. */
    private static final int CALLS_OF_AN_OBJECT = 512;

    private static final String[] PARTS = {
        "p0=0", "p1=7", "p2=10", "p3=19", "p4=99", "p5=100", "p6=127", "p6=119", "p0=120", "p3=2",
        "c", "v0", "v1", "v2", "v3"
    };
    private static final String SIGNS = "pcwxvfb=;0123456789";
    private static final String ODD_SIGNS = "!~aPC:<89-,";

    private final Random random;
    private final MirrorCards cards = new MirrorCards();
    private final PlainModel model = new PlainModel();
    private final StringBuilder story = new StringBuilder();
    private final boolean damaged;
    private int calls;

    private ModelTest(long seed) {
        random = new Random(seed);
        damaged = seed % 3 != 0;
    }

    /** A call that answers with a text, on one of both. */
    private interface Call {
        Object go();
    }

    public static void main(String[] args) {
        Check check = new Check();
        for (int seed = 1; seed <= 600; seed++) {
            String wrong = new ModelTest(seed).go();
            check.same("seed " + seed, "", wrong);
        }
        check.end();
    }

    private String go() {
        while (calls < CALLS_OF_AN_OBJECT) {
            String wrong = oneStep();
            if (!wrong.isEmpty()) {
                return wrong + " after:\n" + story;
            }
        }
        return "";
    }

    private String both(String call, Call onCards, Call onModel) {
        if (calls >= CALLS_OF_AN_OBJECT) {
            return "";
        }
        calls++;
        String got = answer(onCards);
        String due = answer(onModel);
        story.append(call).append(" -> ").append(due).append('\n');
        return got.equals(due) ? "" : call + " answered " + got + ", due is " + due;
    }

    private static String answer(Call call) {
        try {
            return String.valueOf(call.go());
        } catch (RuntimeException e) {
            return e.getClass().getName();
        }
    }

    /** Mostly from 0 to most, now and then outside. */
    private int about(int most) {
        if (random.nextInt(40) == 0) {
            int[] outside = {-1, most + 1, Integer.MIN_VALUE, Integer.MAX_VALUE, most + 2};
            return outside[random.nextInt(outside.length)];
        }
        return random.nextInt(most + 1);
    }

    private String oneStep() {
        int what = random.nextInt(100);
        if (what < 45) {
            return change();
        }
        return what < 80 ? question() : what < 95 ? text() : whole();
    }

    private String change() {
        int k = about(2);
        int r = about(7);
        int c = about(7);
        switch (random.nextInt(damaged ? 12 : 8)) {
            case 0:
                int v = about(127);
                return both("punch " + k + " " + r + " " + v, () -> cards.punch(k, r, v), () -> model.punch(k, r, v));
            case 1:
                return fill(random.nextInt(3));
            case 2:
                return both("close " + k, () -> cards.close(k), () -> model.close(k));
            case 3:
                if (random.nextInt(4) != 0) {
                    return "";
                }
                return both("renew " + k, () -> cards.renew(k), () -> model.renew(k));
            case 4:
                int o = about(2);
                return both("copy " + k + " " + o, () -> cards.copy(k, o), () -> model.copy(k, o));
            case 5:
                return turn(k, about(3));
            case 6:
                return both("undo", cards::undo, model::undo);
            case 7:
                return both("wear " + k + " " + r + " " + c, () -> cards.wear(k, r, c), () -> model.wear(k, r, c));
            default:
                return both("lose " + k + " " + r + " " + c, () -> cards.lose(k, r, c), () -> model.lose(k, r, c));
        }
    }

    /** Punches the rows of a card and closes it, so that whole cards are usual; some with a wrong bit. */
    private String fill(int k) {
        String wrong = "";
        for (int row = 0; row < 7 && wrong.isEmpty(); row++) {
            int r = row;
            int v = random.nextInt(128);
            wrong = both("punch " + k + " " + r + " " + v, () -> cards.punch(k, r, v), () -> model.punch(k, r, v));
        }
        if (wrong.isEmpty() && random.nextInt(3) == 0) {
            wrong = flip(k, random.nextInt(7), random.nextInt(8));
        }
        return wrong.isEmpty() ? both("close " + k, () -> cards.close(k), () -> model.close(k)) : wrong;
    }

    private String flip(int k, int r, int c) {
        boolean one = model.kind(k, r, c) == 1;
        String wrong = turn(k, one ? 0 : 2);
        int from = one ? c : 7 - c;
        wrong += both("lose " + k + " " + r + " " + from, () -> cards.lose(k, r, from), () -> model.lose(k, r, from));
        wrong += turn(k, one ? 2 : 0);
        int to = 7 - from;
        wrong += both("wear " + k + " " + r + " " + to, () -> cards.wear(k, r, to), () -> model.wear(k, r, to));
        return wrong;
    }

    private String turn(int k, int view) {
        return both("turn " + k + " " + view, () -> cards.turn(k, view), () -> model.turn(k, view));
    }

    private String question() {
        int k = about(2);
        int r = about(7);
        int c = about(7);
        int o = about(2);
        int n = about(3);
        switch (random.nextInt(16)) {
            case 0:
                return both("view " + k, () -> cards.view(k), () -> model.view(k));
            case 1:
                return both("sees " + k + " " + r + " " + c, () -> cards.sees(k, r, c), () -> model.sees(k, r, c));
            case 2:
                return both("raw " + k + " " + r, () -> cards.raw(k, r), () -> model.raw(k, r));
            case 3:
                return both("kind " + k + " " + r + " " + c, () -> cards.kind(k, r, c), () -> model.kind(k, r, c));
            case 4:
                return both("told " + k + " " + r + " " + c, () -> cards.told(k, r, c), () -> model.told(k, r, c));
            case 5:
                return both("count " + k + " " + n, () -> cards.count(k, n), () -> model.count(k, n));
            case 6:
                return both("read " + k + " " + r, () -> cards.read(k, r), () -> model.read(k, r));
            case 7:
                return both("value " + k + " " + r, () -> cards.value(k, r), () -> model.value(k, r));
            case 8:
                return both("untold " + k, () -> cards.untold(k), () -> model.untold(k));
            case 9:
                return both("disagreements " + k, () -> cards.disagreements(k), () -> model.disagreements(k));
            case 10:
                return both("disagreement " + k + " " + n,
                        () -> cards.disagreement(k, n), () -> model.disagreement(k, n));
            case 11:
                return both("soundShare " + k, () -> cards.soundShare(k), () -> model.soundShare(k));
            case 12:
                return both("untoldIf " + k + " " + r + " " + c,
                        () -> cards.untoldIf(k, r, c), () -> model.untoldIf(k, r, c));
            case 13:
                return both("worst " + k, () -> cards.worst(k), () -> model.worst(k));
            case 14:
                return both("difference " + k + " " + o, () -> cards.difference(k, o), () -> model.difference(k, o));
            default:
                return both("savedStates", cards::savedStates, model::savedStates);
        }
    }

    private String whole() {
        return both("digest", cards::digest, model::digest);
    }

    private String text() {
        switch (random.nextInt(8)) {
            case 0:
                return both("run", cards::run, model::run);
            case 1:
                return both("firstError", cards::firstError, model::firstError);
            case 2:
                return random.nextInt(3) == 0 ? both("clearText", cards::clearText, model::clearText) : "";
            case 3:
                return append(random.nextInt(3) == 0
                        ? ODD_SIGNS.charAt(random.nextInt(ODD_SIGNS.length())) : random.nextInt(140) - 5);
            case 4:
                return append(SIGNS.charAt(random.nextInt(SIGNS.length())));
            default:
                return appendParts();
        }
    }

    private String append(int code) {
        return both("append " + code, () -> cards.append(code), () -> model.append(code));
    }

    private String appendParts() {
        String wrong = "";
        if (random.nextInt(3) != 0) {
            wrong = both("clearText", cards::clearText, model::clearText);
        }
        int parts = 1 + random.nextInt(9);
        for (int i = 0; i < parts && wrong.isEmpty(); i++) {
            String part = (i == 0 ? "" : ";") + part();
            for (int j = 0; j < part.length() && wrong.isEmpty(); j++) {
                wrong = append(part.charAt(j));
            }
        }
        if (wrong.isEmpty()) {
            wrong = both("firstError", cards::firstError, model::firstError);
        }
        return wrong.isEmpty() && random.nextBoolean() ? both("run", cards::run, model::run) : wrong;
    }

    private String part() {
        if (random.nextInt(3) == 0) {
            return "" + "wx".charAt(random.nextInt(2)) + "fb".charAt(random.nextInt(2))
                    + random.nextInt(8) + random.nextInt(8);
        }
        if (random.nextInt(3) == 0) {
            return "p" + random.nextInt(7) + "=" + random.nextInt(random.nextInt(9) == 0 ? 140 : 128);
        }
        return PARTS[random.nextInt(PARTS.length)];
    }
}
