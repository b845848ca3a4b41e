/** Runs of made-up calls on the class and on the plain model: every answer must be the same. */
final class ModelTest {
    private static final int RUNS = 120;
    private static final int CALLS = 60;
    private static final String[] ORDERS = {
        "w3@0,10,5", "w12@7,48,0", "w1@3,59,199", "w5@2,58,9", "b0,0,1", "b10,59,-2", "b199,5,-0",
        "w", "b1", ";", "w13", "w0", "b200", "b5,60", "w4@8", "b7,7,10", "b0,0,--1", "w2@1,2,3;",
    };

    /** A call on either: the answer as a text, or the exception's name. */
    private interface Answer {
        long give();
    }

    private long seed;

    private ModelTest(int run) {
        seed = 7919L * run + 17;
    }

    static void run(Checks check) {
        check.topic("model");
        for (int run = 0; run < RUNS; run++) {
            new ModelTest(run).compare(check, run);
        }
    }

    /** A number below a bound, the same ones in each run of the tests. */
    private int below(int bound) {
        seed = seed * 6364136223846793005L + 1442695040888963407L;
        return (int) ((seed >>> 33) % bound);
    }

    /** Mostly a number in a range, at times one just outside it. */
    private int in(int least, int most) {
        int kind = below(40);
        if (kind == 0) {
            return least - 1;
        }
        if (kind == 1) {
            return most + 1;
        }
        if (kind < 5) {
            return least;
        }
        return kind < 8 ? most : least + below(most - least + 1);
    }

    private void compare(Checks check, int run) {
        CreditBeams x = new CreditBeams();
        PlainModel y = new PlainModel();
        for (int call = 0; call < CALLS; call++) {
            change(check, "run " + run + " call " + call, x, y);
            look(check, "run " + run + " call " + call, x, y);
            if (call % 10 == 9) {
                check.same("run " + run + " call " + call + " digest", y.digest(), x.digest());
            }
        }
    }

    private static void both(Checks check, String what, Answer x, Answer y) {
        String got = text(x);
        String want = text(y);
        check.isTrue(what + " answered " + got + ", due is " + want + ": the same", got.equals(want));
    }

    private static String text(Answer answer) {
        try {
            return Long.toString(answer.give());
        } catch (RuntimeException e) {
            return e.getClass().getSimpleName();
        }
    }

    private void change(Checks check, String at, CreditBeams x, PlainModel y) {
        int a = below(8);
        switch (below(13)) {
            case 0, 1, 2 -> {
                int letters = in(1, below(2) == 0 ? 12 : 4);
                int row = below(3) == 0 ? in(0, 7) : below(2);
                int column = below(3) == 0 ? in(0, 59) : 20 + below(12);
                int cue = below(2) == 0 ? in(0, 199) : below(60);
                both(check, at + " word " + letters + " " + row + " " + column + " " + cue,
                        () -> x.word(letters, row, column, cue), () -> y.word(letters, row, column, cue));
            }
            case 3, 4, 5 -> {
                int beat = below(2) == 0 ? in(0, 199) : below(40);
                int column = in(0, 59);
                int speed = below(2) == 0 ? in(-9, 9) : below(5) - 2;
                int width = in(1, 9);
                int rows = below(2) == 0 ? 255 : in(1, 255);
                both(check, at + " beam " + beat + " " + column + " " + speed + " " + width + " " + rows,
                        () -> x.beam(beat, column, speed, width, rows),
                        () -> y.beam(beat, column, speed, width, rows));
            }
            case 6, 7 -> {
                int rule = in(0, 2);
                int hold = in(0, 50);
                both(check, at + " rule " + a + " " + rule + " " + hold,
                        () -> x.rule(a, rule, hold), () -> y.rule(a, rule, hold));
            }
            case 8 -> {
                int cue = in(0, 199);
                both(check, at + " cue " + a + " " + cue, () -> x.cue(a, cue), () -> y.cue(a, cue));
            }
            case 9 -> {
                int setting = below(3);
                int value = in(0, 20);
                both(check, at + " set " + setting + " " + value,
                        () -> x.set(setting, value), () -> y.set(setting, value));
            }
            case 10 -> both(check, at + " turn " + a, () -> x.turn(a), () -> y.turn(a));
            case 11 -> lesser(check, at, x, y, a);
            default -> texts(check, at, x, y);
        }
    }

    private void lesser(Checks check, String at, CreditBeams x, PlainModel y, int number) {
        switch (below(4)) {
            case 0 -> both(check, at + " removeWord " + number,
                    () -> x.removeWord(number), () -> y.removeWord(number));
            case 1 -> both(check, at + " removeBeam " + number,
                    () -> x.removeBeam(number), () -> y.removeBeam(number));
            default -> both(check, at + " undo", x::undo, y::undo);
        }
    }

    private void texts(Checks check, String at, CreditBeams x, PlainModel y) {
        for (int i = below(4); i >= 0; i--) {
            String order = ORDERS[below(below(2) == 0 ? 7 : ORDERS.length)];
            for (int k = 0; k < order.length(); k++) {
                int code = order.charAt(k);
                both(check, at + " append " + code, () -> x.append(code), () -> y.append(code));
            }
            int code = i > 0 ? ';' : in(33, 126);
            if (i > 0 || below(8) == 0) {
                both(check, at + " append " + code, () -> x.append(code), () -> y.append(code));
            }
        }
        both(check, at + " firstError", x::firstError, y::firstError);
        both(check, at + " read", x::read, y::read);
        if (below(3) != 0) {
            both(check, at + " clearBuffer", x::clearBuffer, y::clearBuffer);
        }
    }

    private void look(Checks check, String at, CreditBeams x, PlainModel y) {
        int a = in(0, 8);
        int letter = in(0, 11);
        both(check, at + " litAt " + a + " " + letter, () -> x.litAt(a, letter), () -> y.litAt(a, letter));
        int what = in(6, 9);
        both(check, at + " wordOf " + a + " " + what, () -> x.wordOf(a, what), () -> y.wordOf(a, what));
        int which = in(0, 6);
        both(check, at + " beamOf " + a + " " + which, () -> x.beamOf(a, which), () -> y.beamOf(a, which));
        int beat = in(0, 199);
        int number = in(0, 4);
        both(check, at + " beat " + beat + " " + number, () -> x.beat(beat, number), () -> y.beat(beat, number));
        int row = in(0, 2);
        int column = in(10, 40);
        both(check, at + " seen " + beat + " " + row + " " + column,
                () -> x.seen(beat, row, column), () -> y.seen(beat, row, column));
        int counted = in(0, 9);
        both(check, at + " count " + counted, () -> x.count(counted), () -> y.count(counted));
        int speed = in(-9, 9);
        int width = in(1, 9);
        int brought = in(0, 2);
        both(check, at + " ifBeam " + beat + " " + column + " " + speed + " " + width + " " + brought,
                () -> x.ifBeam(beat, column, speed, width, brought),
                () -> y.ifBeam(beat, column, speed, width, brought));
        if (below(4) == 0) {
            both(check, at + " bestSpeed " + beat + " " + column,
                    () -> x.bestSpeed(beat, column), () -> y.bestSpeed(beat, column));
            both(check, at + " clearCue " + a, () -> x.clearCue(a), () -> y.clearCue(a));
        }
        both(check, at + " litShare", () -> Double.doubleToLongBits(x.litShare()),
                () -> Double.doubleToLongBits(y.litShare()));
    }
}
