/** For each promise what it says: ordinary inputs, the edges, and wrong inputs. */
final class PromiseTest {
    private static final Class<IllegalArgumentException> ARGUMENT = IllegalArgumentException.class;
    private static final Class<IllegalStateException> STATE = IllegalStateException.class;
    private static final Class<IndexOutOfBoundsException> INDEX = IndexOutOfBoundsException.class;
    private static final int LEAST = Integer.MIN_VALUE;
    private static final int MOST = Integer.MAX_VALUE;

    private final Checks check;

    private PromiseTest(Checks check) {
        this.check = check;
    }

    static void run(Checks check) {
        PromiseTest test = new PromiseTest(check);
        test.newObject();
        test.word();
        test.rule();
        test.cue();
        test.removeWord();
        test.beam();
        test.turn();
        test.removeBeam();
        test.nothingLeft();
        test.set();
        test.append();
        test.clearBuffer();
        test.firstError();
        test.read();
        test.readStops();
        test.undo();
        test.wordOf();
        test.bars();
        test.litAt();
        test.litTogether();
        test.beamOf();
        test.beat();
        test.seen();
        test.count();
        test.ifBeam();
        test.bestSpeed();
        test.clearCue();
        test.litShare();
        test.digest();
    }

    private static int[] row(int... values) {
        return values;
    }

    /** Two words that clash in column 12, and a beam that is in column t in the beat t. */
    private static CreditBeams scene() {
        CreditBeams x = new CreditBeams();
        x.word(3, 0, 10, 0);
        x.word(3, 0, 12, 0);
        x.beam(0, 0, 1, 1, 255);
        return x;
    }

    private void newObject() {
        check.topic("promise 1");
        CreditBeams x = new CreditBeams();
        check.row("counts", row(0, 0, 0, 0, 0, -1, 200, 0, 0, 0), Looks.counts(x));
        check.same("clearBuffer", 0, x.clearBuffer());
        check.same("firstError", 0, x.firstError());
        check.same("bars", 4, x.set(0, 5));
        check.same("remembered", 4, x.set(1, 5));
        CreditBeams y = new CreditBeams();
        x.word(2, 3, 4, 5);
        check.same("another object's words", 0, y.count(0));
    }

    private void word() {
        check.topic("promise 2");
        CreditBeams x = new CreditBeams();
        check.same("least", 0, x.word(1, 0, 0, 0));
        check.same("most", 1, x.word(12, 7, 48, 199));
        check.same("last column", 2, x.word(1, 7, 59, 199));
        check.row("least", row(1, 0, 0, 0, 0, 4, -1, -1, -1, 0), Looks.word(x, 0));
        check.row("most", row(12, 7, 48, 199, 0, 4, -1, -1, -1, 0), Looks.word(x, 1));
        check.row("last column", row(1, 7, 59, 199, 0, 4, -1, -1, -1, 0), Looks.word(x, 2));
        wrongWords(x);
        for (int number = 3; number < 8; number++) {
            check.same("number", number, x.word(2, 2, 2, 2));
        }
        check.refuses("ninth word", x, STATE, () -> x.word(1, 0, 0, 0));
        wrongWords(x);
        check.same("undo", 5, x.undo());
        check.same("words after undo", 7, x.count(0));
    }

    private void wrongWords(CreditBeams x) {
        int[][] wrong = {
            {0, 0, 0, 0}, {13, 0, 0, 0}, {1, -1, 0, 0}, {1, 8, 0, 0}, {1, 0, -1, 0}, {1, 0, 60, 0},
            {1, 0, 0, -1}, {1, 0, 0, 200}, {2, 0, 59, 0}, {12, 0, 49, 0}, {3, 0, 58, 0},
            {LEAST, 0, 0, 0}, {MOST, 0, 0, 0}, {1, LEAST, 0, 0}, {1, MOST, 0, 0},
            {1, 0, LEAST, 0}, {1, 0, MOST, 0}, {1, 0, 0, LEAST}, {1, 0, 0, MOST}, {MOST, 0, MOST, 0},
        };
        for (int[] w : wrong) {
            check.refuses("word " + w[0] + " " + w[1] + " " + w[2] + " " + w[3], x, ARGUMENT,
                    () -> x.word(w[0], w[1], w[2], w[3]));
        }
    }

    private void rule() {
        check.topic("promise 3");
        CreditBeams x = scene();
        check.same("from 0", 0, x.rule(1, 2, 50));
        check.same("from 2", 2, x.rule(1, 1, 0));
        check.row("changed", row(3, 0, 12, 0, 1, 0, 12, 14, 16, 3), Looks.word(x, 1));
        check.row("the other one", row(3, 0, 10, 0, 0, 4, 10, 12, 16, 3), Looks.word(x, 0));
        check.same("from 1", 1, x.rule(1, 1, 0));
        check.same("saved, without a change too", 6, x.count(9));
        x.undo();
        x.undo();
        check.same("rule after undo", 2, x.wordOf(1, 4));
        check.same("hold after undo", 50, x.wordOf(1, 5));
        int[][] wrong = {{-1, 0}, {3, 0}, {0, -1}, {0, 51}, {LEAST, 0}, {MOST, 0}, {0, LEAST}, {0, MOST}};
        for (int[] w : wrong) {
            check.refuses("rule " + w[0] + " " + w[1], x, ARGUMENT, () -> x.rule(0, w[0], w[1]));
            check.refuses("rule of no word", x, INDEX, () -> x.rule(2, w[0], w[1]));
        }
        for (int word : row(-1, 2, 8, LEAST, MOST)) {
            check.refuses("rule of the word " + word, x, INDEX, () -> x.rule(word, 0, 0));
        }
    }

    private void cue() {
        check.topic("promise 4");
        CreditBeams x = scene();
        check.same("from 0", 0, x.cue(0, 11));
        check.row("lit", row(-1, 11, 12), Looks.lit(x, 0));
        check.row("the other one", row(12, 13, 14), Looks.lit(x, 1));
        check.same("from 11", 11, x.cue(0, 199));
        check.same("from 199", 199, x.cue(0, 0));
        check.row("lit", row(10, 11, 12), Looks.lit(x, 0));
        check.same("from 0", 0, x.cue(0, 0));
        check.same("saved, without a change too", 6, x.count(9));
        x.undo();
        x.undo();
        check.same("cue after undo", 199, x.wordOf(0, 3));
        for (int cue : row(-1, 200, LEAST, MOST)) {
            check.refuses("cue " + cue, x, ARGUMENT, () -> x.cue(0, cue));
            check.refuses("cue of no word", x, INDEX, () -> x.cue(2, cue));
        }
        for (int word : row(-1, 2, 8, LEAST, MOST)) {
            check.refuses("cue of the word " + word, x, INDEX, () -> x.cue(word, 0));
        }
    }

    private void removeWord() {
        check.topic("promise 5");
        CreditBeams x = new CreditBeams();
        for (int i = 0; i < 8; i++) {
            x.word(i + 1, i % 8, 3 * i, 10 * i);
            x.rule(i, i % 3, i);
        }
        for (int word : row(-1, 8, LEAST, MOST)) {
            check.refuses("removing the word " + word, x, INDEX, () -> x.removeWord(word));
        }
        check.same("words", 7, x.removeWord(2));
        check.row("before it", row(2, 1, 3, 10, 1, 1, -1, -1, -1, 0), Looks.word(x, 1));
        check.row("behind it", row(4, 3, 9, 30, 0, 3, -1, -1, -1, 0), Looks.word(x, 2));
        check.row("the last one", row(8, 7, 21, 70, 1, 7, -1, -1, -1, 0), Looks.word(x, 6));
        check.refuses("the last one's old number", x, INDEX, () -> x.wordOf(7, 0));
        check.same("last word", 6, x.removeWord(6));
        check.same("first word", 5, x.removeWord(0));
        check.same("the first one's letters", 2, x.wordOf(0, 0));
        check.same("a new one", 5, x.word(1, 0, 0, 0));
        check.row("a new one", row(1, 0, 0, 0, 0, 4, -1, -1, -1, 0), Looks.word(x, 5));
        for (int i = 0; i < 4; i++) {
            x.undo();
        }
        check.same("words after undo", 8, x.count(0));
        check.row("restored", row(3, 2, 6, 20, 2, 2, -1, -1, -1, 0), Looks.word(x, 2));
    }

    private void beam() {
        check.topic("promise 6");
        CreditBeams x = new CreditBeams();
        check.same("least", 0, x.beam(0, 0, -9, 1, 1));
        check.same("most", 1, x.beam(199, 59, 9, 9, 255));
        check.row("least", row(0, 0, 0, 1, 1, 1, 0), Looks.beam(x, 0));
        check.row("most", row(199, 59, 18, 9, 255, 1, 0), Looks.beam(x, 1));
        wrongBeams(x);
        for (int number = 2; number < 6; number++) {
            check.same("number", number, x.beam(3, 4, 0, 2, 128));
        }
        check.refuses("seventh beam", x, STATE, () -> x.beam(0, 0, 0, 1, 1));
        wrongBeams(x);
        check.same("undo", 5, x.undo());
        check.same("beams after undo", 5, x.count(1));
        beamRows();
    }

    private void wrongBeams(CreditBeams x) {
        int[][] wrong = {
            {-1, 0, 0, 1, 1}, {200, 0, 0, 1, 1}, {0, -1, 0, 1, 1}, {0, 60, 0, 1, 1},
            {0, 0, -10, 1, 1}, {0, 0, 10, 1, 1}, {0, 0, 0, 0, 1}, {0, 0, 0, 10, 1},
            {0, 0, 0, 1, 0}, {0, 0, 0, 1, 256}, {0, 0, 0, 1, -1}, {LEAST, 0, 0, 1, 1}, {MOST, 0, 0, 1, 1},
            {0, LEAST, 0, 1, 1}, {0, MOST, 0, 1, 1}, {0, 0, LEAST, 1, 1}, {0, 0, MOST, 1, 1},
            {0, 0, 0, LEAST, 1}, {0, 0, 0, MOST, 1}, {0, 0, 0, 1, LEAST}, {0, 0, 0, 1, MOST},
        };
        for (int[] w : wrong) {
            check.refuses("beam " + w[0] + " " + w[1] + " " + w[2] + " " + w[3] + " " + w[4], x, ARGUMENT,
                    () -> x.beam(w[0], w[1], w[2], w[3], w[4]));
        }
    }

    private void beamRows() {
        for (int row = 0; row < 8; row++) {
            CreditBeams x = new CreditBeams();
            for (int other = 0; other < 8; other++) {
                x.word(2, other, 30, 0);
            }
            x.beam(7, 30, 0, 2, 1 << row);
            for (int other = 0; other < 8; other++) {
                int lit = other == row ? 7 : -1;
                check.row("row " + other, row(lit, lit), Looks.lit(x, other));
            }
        }
    }

    private void turn() {
        check.topic("promise 7");
        CreditBeams x = scene();
        x.beam(0, 11, -1, 1, 255);
        check.same("the other way", 6, x.turn(1));
        check.same("speed", 10, x.beamOf(1, 2));
        check.same("first one off", 5, x.turn(0));
        check.row("lit", row(-1, 0, 1), Looks.lit(x, 0));
        check.row("lit", row(1, 2, 3), Looks.lit(x, 1));
        check.same("speed", 8, x.beamOf(0, 2));
        x.beam(0, 0, 0, 1, 255);
        check.same("speed 0", 5, x.turn(2));
        check.same("speed 0 stays", 9, x.beamOf(2, 2));
        check.same("saved", 6, x.count(9));
        x.undo();
        x.undo();
        x.undo();
        check.same("speed after undo", 10, x.beamOf(0, 2));
        for (int beam : row(-1, 2, 6, LEAST, MOST)) {
            check.refuses("turning the beam " + beam, x, INDEX, () -> x.turn(beam));
        }
    }

    private void removeBeam() {
        check.topic("promise 8");
        CreditBeams x = new CreditBeams();
        for (int i = 0; i < 6; i++) {
            x.beam(190 + i, 10 * i, 0, i + 1, 40 * i + 1);
        }
        for (int beam : row(-1, 6, LEAST, MOST)) {
            check.refuses("removing the beam " + beam, x, INDEX, () -> x.removeBeam(beam));
        }
        check.same("beams", 5, x.removeBeam(1));
        check.row("before it", row(190, 0, 9, 1, 1, 10, 0), Looks.beam(x, 0));
        check.row("behind it", row(192, 20, 9, 3, 81, 8, 0), Looks.beam(x, 1));
        check.row("the last one", row(195, 50, 9, 6, 201, 5, 0), Looks.beam(x, 4));
        check.refuses("the last one's old number", x, INDEX, () -> x.beamOf(5, 0));
        check.same("last beam", 4, x.removeBeam(4));
        check.same("first beam", 3, x.removeBeam(0));
        check.same("the first one's beat", 192, x.beamOf(0, 0));
        check.same("a new one", 3, x.beam(1, 2, 3, 4, 5));
        check.same("bars", 4, x.set(0, 4));
        for (int i = 0; i < 5; i++) {
            x.undo();
        }
        check.same("beams after undo", 6, x.count(1));
        check.row("restored", row(191, 10, 9, 2, 41, 9, 0), Looks.beam(x, 1));
        CreditBeams y = scene();
        y.removeBeam(0);
        check.same("letters that are lit without beams", 0, y.count(3));
    }

    /** What has been removed shows nowhere any more. */
    private void nothingLeft() {
        CreditBeams x = scene();
        x.word(12, 0, 5, 0);
        x.word(12, 0, 7, 0);
        x.beam(3, 9, 0, 9, 255);
        check.same("seen", 2, x.seen(10, 0, 9));
        x.removeBeam(1);
        x.removeWord(3);
        x.removeWord(2);
        CreditBeams y = scene();
        for (int i = 0; i < 6; i++) {
            y.cue(0, 0);
        }
        check.isTrue("all is as if it had never been", Looks.all(y).equals(Looks.all(x)));
        for (int beat = 5; beat < 30; beat++) {
            check.same("seen in the beat " + beat, -1, x.seen(beat, 0, 9));
        }
        x.removeWord(0);
        x.removeWord(0);
        check.row("counts", row(0, 1, 0, 0, 0, -1, 200, 0, 0, 6), Looks.counts(x));
        check.row("beat", row(0, 0, 0, 0, 1), Looks.beat(x, 12));
        check.isTrue("share", x.litShare() == 1.0);
    }

    private void set() {
        check.topic("promise 9");
        CreditBeams x = scene();
        check.same("bars from 4", 4, x.set(0, 1));
        check.same("bars from 1", 1, x.set(0, 16));
        check.same("bars from 16", 16, x.set(0, 16));
        check.same("remembered from 4", 4, x.set(1, 0));
        check.same("remembered from 0", 0, x.set(1, 20));
        check.same("remembered from 20", 20, x.set(1, 3));
        check.same("saved", 6, x.count(9));
        x.undo();
        x.undo();
        x.undo();
        check.same("remembered after undo", 4, x.set(1, 4));
        check.same("bars after undo", 16, x.set(0, 4));
        for (int value : row(0, 17, -1, LEAST, MOST)) {
            check.refuses("bars " + value, x, ARGUMENT, () -> x.set(0, value));
        }
        for (int value : row(-1, 21, LEAST, MOST)) {
            check.refuses("remembered " + value, x, ARGUMENT, () -> x.set(1, value));
        }
        for (int setting : row(-1, 2, LEAST, MOST)) {
            check.refuses("setting " + setting, x, INDEX, () -> x.set(setting, 4));
            check.refuses("setting " + setting, x, INDEX, () -> x.set(setting, -1));
        }
    }

    private void append() {
        check.topic("promise 10");
        CreditBeams x = new CreditBeams();
        check.same("least", 1, x.append(33));
        check.same("most", 2, x.append(126));
        for (int code : row(32, 127, 0, -1, LEAST, MOST)) {
            check.refuses("append " + code, x, ARGUMENT, () -> x.append(code));
        }
        for (int length = 3; length <= 60; length++) {
            check.same("length", length, x.append('w'));
        }
        check.refuses("full buffer", x, STATE, () -> x.append('w'));
        for (int code : row(32, 127)) {
            check.refuses("append to a full buffer " + code, x, ARGUMENT, () -> x.append(code));
        }
        check.same("saved", 0, x.count(9));
        check.same("length", 60, x.clearBuffer());
        check.same("length anew", 1, x.append('w'));
    }

    private void clearBuffer() {
        check.topic("promise 11");
        CreditBeams x = new CreditBeams();
        Looks.type(x, "w1@");
        check.same("length", 3, x.clearBuffer());
        check.same("length then", 0, x.clearBuffer());
        check.same("saved", 0, x.count(9));
        Looks.type(x, "b1");
        check.same("text anew", 2, x.firstError());
        x.word(1, 1, 1, 1);
        x.undo();
        check.same("undo leaves the buffer", 2, x.clearBuffer());
    }

    private void firstError() {
        check.topic("promise 12");
        CreditBeams x = new CreditBeams();
        Looks.type(x, "w1@0,0,0;x");
        check.same("an error at the end", 9, x.firstError());
        Looks.type(x, "w1@0");
        check.same("the first one", 9, x.firstError());
        check.same("the buffer stays", 14, x.clearBuffer());
        Looks.type(x, "w12@7,59,199;b0,0,-");
        check.same("none", 19, x.firstError());
        check.same("again", 19, x.firstError());
    }

    private void read() {
        check.topic("promise 13");
        CreditBeams x = new CreditBeams();
        check.refuses("an empty text", x, ARGUMENT, x::read);
        Looks.type(x, "w12@7,48,199;b199,59,-9;w1@0,0,0;b0,0,9;b10,20,0;b7,8,-0");
        check.same("done", 6, x.read());
        check.same("the buffer is clear", 0, x.clearBuffer());
        check.row("a word", row(12, 7, 48, 199, 0, 4, 199, -1, -1, 1), Looks.word(x, 0));
        check.row("another one", row(1, 0, 0, 0, 0, 4, 0, 0, 4, 1), Looks.word(x, 1));
        check.row("a beam", row(199, 59, 0, 2, 255, 1, 1), Looks.beam(x, 0));
        check.row("another one", row(0, 0, 18, 2, 255, 7, 1), Looks.beam(x, 1));
        check.row("a third one", row(10, 20, 9, 2, 255, 190, 0), Looks.beam(x, 2));
        check.row("speed -0", row(7, 8, 9, 2, 255, 193, 0), Looks.beam(x, 3));
        check.same("saved as one call", 1, x.count(9));
        check.same("undo", 0, x.undo());
        check.row("all undone", row(0, 0, 0, 0, 0, -1, 200, 0, 0, 0), Looks.counts(x));
        check.same("the buffer stays clear", 0, x.clearBuffer());
        for (String text : new String[] {"w", "w1@0,0,", "w1@0,0,0;", "b0,0,-", "x", "w1@0,0,0;;w1@0,0,0",
            "w1@0,0,0w", ";w1@0,0,0", "w1@0,0,200", "b0,0", "b0,0,10", "w13@0,0,0"}) {
            x.clearBuffer();
            Looks.type(x, text);
            check.refuses("the text " + text, x, ARGUMENT, x::read);
            check.same("length", text.length(), x.clearBuffer());
        }
    }

    private void readStops() {
        CreditBeams x = new CreditBeams();
        Looks.type(x, "w1@0,0,0;w2@0,59,0;w1@0,1,0");
        check.same("a word that does not fit", 1, x.read());
        check.same("words", 1, x.count(0));
        Looks.type(x, "w2@0,59,0");
        check.same("none done", 0, x.read());
        check.same("saved all the same", 2, x.count(9));
        check.same("the buffer is clear", 0, x.clearBuffer());
        Looks.type(x, "b0,0,1;b0,0,2;b0,0,3;b0,0,4;b0,0,5;b0,0,6;b0,0,7;w1@0,9,0");
        check.same("too many beams", 6, x.read());
        check.same("words", 1, x.count(0));
        for (int i = 0; i < 6; i++) {
            x.word(1, 1, 1, 1);
        }
        Looks.type(x, "w1@0,0,0;w1@0,1,0;b1,1,1");
        check.same("too many words", 1, x.read());
        check.same("words", 8, x.count(0));
        check.same("saved", 6, x.count(9));
        x.undo();
        check.same("words after undo", 7, x.count(0));
        check.same("beams after undo", 6, x.count(1));
    }

    private void undo() {
        check.topic("promise 14");
        CreditBeams x = new CreditBeams();
        check.refuses("none", x, STATE, x::undo);
        for (int i = 0; i < 8; i++) {
            x.word(1, 0, i, i);
            check.same("saved", Math.min(i + 1, 6), x.count(9));
        }
        Looks.type(x, "w1");
        for (int left = 5; left >= 0; left--) {
            check.same("left", left, x.undo());
            check.same("words", left + 2, x.count(0));
        }
        check.refuses("all undone", x, STATE, x::undo);
        check.same("the buffer stays", 2, x.clearBuffer());
        CreditBeams y = scene();
        String before = Looks.all(y);
        y.rule(0, 2, 17);
        y.cue(1, 9);
        y.turn(0);
        y.undo();
        y.undo();
        y.undo();
        check.isTrue("all is as before", before.equals(Looks.all(y)));
        y.set(0, 7);
        y.set(1, 7);
        y.undo();
        check.same("one setting undone", 4, y.set(1, 7));
        check.same("the other one not", 7, y.set(0, 7));
    }

    private void wordOf() {
        check.topic("promise 15");
        CreditBeams x = scene();
        check.row("rule 0", row(3, 0, 10, 0, 0, 4, 10, 12, 16, 3), Looks.word(x, 0));
        x.cue(0, 11);
        check.row("not whole", row(3, 0, 10, 11, 0, 4, 11, -1, -1, 2), Looks.word(x, 0));
        x.cue(0, 13);
        check.row("not lit", row(3, 0, 10, 13, 0, 4, -1, -1, -1, 0), Looks.word(x, 0));
        x.cue(0, 0);
        x.beam(3, 12, 0, 1, 1);
        check.row("first lit on the right", row(3, 0, 10, 0, 0, 4, 3, 11, 16, 3), Looks.word(x, 0));
        for (int what : row(-1, 10, LEAST, MOST)) {
            check.refuses("property " + what, x, ARGUMENT, () -> x.wordOf(0, what));
            check.refuses("property " + what + " of no word", x, INDEX, () -> x.wordOf(2, what));
        }
        for (int word : row(-1, 2, 8, LEAST, MOST)) {
            check.refuses("the word " + word, x, INDEX, () -> x.wordOf(word, 0));
        }
    }

    private void bars() {
        CreditBeams x = new CreditBeams();
        x.word(3, 0, 10, 0);
        x.beam(0, 0, 1, 1, 1);
        // The word is whole from 12 on. A row: beats of a bar, hold, the beat at which it goes.
        int[][] rows = {
            {4, 4, 16}, {4, 0, 16}, {4, 1, 16}, {4, 5, 20}, {6, 0, 18}, {6, 6, 18}, {6, 7, 24}, {1, 0, 13},
            {1, 1, 13}, {1, 2, 14}, {5, 3, 15}, {5, 4, 20}, {16, 50, 64}, {16, 0, 16}, {13, 0, 13},
        };
        for (int[] r : rows) {
            x.set(0, r[0]);
            x.rule(0, 0, r[1]);
            check.same("bars " + r[0] + " hold " + r[1], r[2], x.wordOf(0, 8));
        }
        CreditBeams y = new CreditBeams();
        y.word(1, 0, 10, 190);
        y.beam(0, 10, 0, 1, 1);
        int[][] late = {{1, 9, 199}, {1, 10, -1}, {16, 2, 192}, {16, 3, -1}, {4, 6, 196}, {4, 7, -1}};
        for (int[] r : late) {
            y.set(0, r[0]);
            y.rule(0, 0, r[1]);
            check.same("late, bars " + r[0] + " hold " + r[1], r[2], y.wordOf(0, 8));
        }
        y.set(0, 1);
        y.rule(0, 0, 0);
        y.cue(0, 199);
        check.row("whole at the end", row(1, 0, 10, 199, 0, 0, 199, 199, -1, 1), Looks.word(y, 0));
        y.cue(0, 0);
        check.row("whole at once", row(1, 0, 10, 0, 0, 0, 0, 0, 1, 1), Looks.word(y, 0));
    }

    private void litAt() {
        check.topic("promise 16");
        CreditBeams x = scene();
        check.row("rule 0", row(10, 11, 12), Looks.lit(x, 0));
        x.turn(0);
        check.row("never", row(-1, -1, -1), Looks.lit(x, 0));
        x.beam(0, 59, -1, 1, 255);
        check.row("leftward", row(49, 48, 47), Looks.lit(x, 0));
        x.rule(0, 1, 4);
        check.row("rule 1 leftward", row(49, -1, -1), Looks.lit(x, 0));
        x.beam(5, 10, 0, 1, 255);
        check.row("the left one before", row(5, 48, -1), Looks.lit(x, 0));
        x.beam(60, 10, 0, 3, 255);
        check.row("the last one later", row(5, 48, 60), Looks.lit(x, 0));
        x.cue(0, 100);
        check.row("all in one beat", row(100, 100, 100), Looks.lit(x, 0));
        for (int letter : row(-1, 3, 12, LEAST, MOST)) {
            check.refuses("letter " + letter, x, INDEX, () -> x.litAt(0, letter));
        }
        for (int word : row(-1, 2, 8, LEAST, MOST)) {
            check.refuses("the word " + word, x, INDEX, () -> x.litAt(word, 0));
        }
        CreditBeams y = new CreditBeams();
        y.word(12, 0, 48, 0);
        y.beam(100, 59, -3, 2, 1);
        check.row("by threes", row(104, -1, 103, 103, -1, 102, 102, -1, 101, 101, -1, 100),
                Looks.lit(y, 0));
    }

    private void litTogether() {
        CreditBeams x = scene();
        x.rule(0, 2, 4);
        check.row("rule 2", row(12, 12, 12), Looks.lit(x, 0));
        x.set(1, 2);
        check.row("just remembered", row(12, 12, 12), Looks.lit(x, 0));
        x.set(1, 1);
        check.row("forgotten", row(-1, -1, -1), Looks.lit(x, 0));
        x.set(1, 20);
        x.cue(0, 10);
        check.row("from the cue on", row(12, 12, 12), Looks.lit(x, 0));
        x.cue(0, 11);
        check.row("before the cue", row(-1, -1, -1), Looks.lit(x, 0));
        x.set(1, 0);
        x.beam(30, 9, 0, 4, 1);
        check.row("at once", row(30, 30, 30), Looks.lit(x, 0));
        x.cue(0, 199);
        check.row("in the last beat", row(199, 199, 199), Looks.lit(x, 0));
        CreditBeams y = new CreditBeams();
        y.word(1, 0, 0, 0);
        y.rule(0, 2, 0);
        y.beam(0, 0, 0, 1, 1);
        check.row("in the first beat", row(0), Looks.lit(y, 0));
        y.rule(0, 1, 0);
        check.row("in the first beat by rule 1", row(0), Looks.lit(y, 0));
    }

    private void beamOf() {
        check.topic("promise 17");
        // A row: beat, column, speed, width, beats in which it covers some column.
        int[][] rows = {
            {0, 0, 1, 2, 60}, {0, 59, 1, 1, 1}, {0, 0, -1, 2, 2}, {190, 5, 0, 1, 10}, {199, 5, 9, 1, 1},
            {0, 0, -1, 9, 9}, {0, 0, 9, 1, 7}, {0, 59, -9, 1, 7}, {0, 59, -9, 9, 8}, {150, 0, 1, 1, 50},
            {0, 30, 0, 9, 200}, {0, 8, -9, 1, 1}, {0, 9, -9, 1, 2},
        };
        for (int[] r : rows) {
            CreditBeams x = new CreditBeams();
            x.beam(r[0], r[1], r[2], r[3], 129);
            check.row("beam", row(r[0], r[1], r[2] + 9, r[3], 129, r[4], 0), Looks.beam(x, 0));
        }
        CreditBeams x = scene();
        check.same("alone", 6, x.beamOf(0, 6));
        x.beam(100, 10, 0, 2, 1);
        check.same("with another one", 4, x.beamOf(0, 6));
        check.same("the other one", 0, x.beamOf(1, 6));
        x.rule(0, 2, 4);
        check.same("that waits for all", 6, x.beamOf(0, 6));
        for (int what : row(-1, 7, LEAST, MOST)) {
            check.refuses("property " + what, x, ARGUMENT, () -> x.beamOf(0, what));
            check.refuses("property " + what + " of no beam", x, INDEX, () -> x.beamOf(2, what));
        }
        for (int beam : row(-1, 2, 6, LEAST, MOST)) {
            check.refuses("the beam " + beam, x, INDEX, () -> x.beamOf(beam, 0));
        }
    }

    private void beat() {
        check.topic("promise 18");
        CreditBeams x = scene();
        x.beam(15, 59, 1, 1, 128);
        check.row("beat 9", row(0, 0, 0, 0, 1), Looks.beat(x, 9));
        check.row("beat 10", row(1, 1, 0, 0, 1), Looks.beat(x, 10));
        check.row("beat 11", row(2, 1, 0, 0, 1), Looks.beat(x, 11));
        check.row("beat 12", row(4, 2, 1, 1, 1), Looks.beat(x, 12));
        check.row("beat 14", row(6, 2, 2, 1, 1), Looks.beat(x, 14));
        check.row("beat 15", row(6, 2, 2, 1, 2), Looks.beat(x, 15));
        check.row("beat 16", row(3, 1, 1, 0, 1), Looks.beat(x, 16));
        check.row("beat 19", row(3, 1, 1, 0, 1), Looks.beat(x, 19));
        check.row("beat 20", row(0, 0, 0, 0, 1), Looks.beat(x, 20));
        check.row("beat 59", row(0, 0, 0, 0, 1), Looks.beat(x, 59));
        check.row("beat 60", row(0, 0, 0, 0, 0), Looks.beat(x, 60));
        x.word(2, 0, 11, 0);
        check.same("three pairs", 3, x.beat(12, 3));
        x.cue(0, 11);
        check.row("a word that stays in part", row(2, 1, 0, 0, 0), Looks.beat(x, 199));
        check.row("beat 0", row(0, 0, 0, 0, 1), Looks.beat(x, 0));
        for (int wrong : row(-1, 5, LEAST, MOST)) {
            check.refuses("what " + wrong, x, ARGUMENT, () -> x.beat(0, wrong));
        }
        for (int wrong : row(-1, 200, LEAST, MOST)) {
            check.refuses("beat " + wrong, x, ARGUMENT, () -> x.beat(wrong, 0));
        }
    }

    private void seen() {
        check.topic("promise 19");
        CreditBeams x = scene();
        check.same("before", -1, x.seen(9, 0, 10));
        check.same("lit", 0, x.seen(10, 0, 10));
        check.same("not yet", -1, x.seen(10, 0, 11));
        check.same("the lowest", 0, x.seen(12, 0, 12));
        check.same("the last of it", 0, x.seen(15, 0, 12));
        check.same("the other one", 1, x.seen(16, 0, 12));
        check.same("gone", -1, x.seen(16, 0, 11));
        check.same("another row", -1, x.seen(12, 1, 12));
        check.same("left of it", -1, x.seen(12, 0, 9));
        check.same("its last letter", 1, x.seen(14, 0, 14));
        check.same("right of it", -1, x.seen(15, 0, 15));
        check.same("both gone", -1, x.seen(20, 0, 12));
        x.word(1, 7, 59, 199);
        x.beam(199, 59, 9, 1, 128);
        check.same("the last place", 2, x.seen(199, 7, 59));
        check.same("the first place", -1, x.seen(0, 0, 0));
        int[][] wrong = {{-1, 0, 0}, {200, 0, 0}, {0, -1, 0}, {0, 8, 0}, {0, 0, -1}, {0, 0, 60},
            {LEAST, 0, 0}, {MOST, 0, 0}, {0, LEAST, 0}, {0, MOST, 0}, {0, 0, LEAST}, {0, 0, MOST}};
        for (int[] w : wrong) {
            check.refuses("seen " + w[0] + " " + w[1] + " " + w[2], x, ARGUMENT,
                    () -> x.seen(w[0], w[1], w[2]));
        }
    }

    private void count() {
        check.topic("promise 20");
        CreditBeams x = scene();
        check.row("scene", row(2, 1, 6, 6, 2, 14, 190, 4, 1, 3), Looks.counts(x));
        x.word(2, 0, 11, 0);
        check.row("a third one", row(3, 1, 8, 8, 3, 14, 190, 5, 3, 4), Looks.counts(x));
        x.cue(0, 11);
        check.row("a part of it stays", row(3, 1, 8, 7, 2, 14, 11, 9, 3, 5), Looks.counts(x));
        x.cue(1, 199);
        x.cue(2, 199);
        check.row("one alone", row(3, 1, 8, 2, 0, -1, 11, 0, 0, 6), Looks.counts(x));
        CreditBeams y = new CreditBeams();
        y.word(2, 0, 10, 0);
        y.word(2, 0, 12, 0);
        y.word(2, 1, 11, 0);
        y.beam(0, 10, 0, 9, 3);
        check.row("side by side", row(3, 1, 6, 6, 3, 0, 196, 0, 0, 4), Looks.counts(y));
        y.word(1, 0, 13, 0);
        y.word(1, 1, 12, 0);
        check.row("two pairs at once", row(5, 1, 8, 8, 5, 0, 196, 4, 2, 6), Looks.counts(y));
        y.cue(0, 100);
        check.same("the first word is whole last", 100, y.count(5));
        for (int what : row(-1, 10, LEAST, MOST)) {
            check.refuses("count " + what, y, ARGUMENT, () -> y.count(what));
        }
    }

    private void ifBeam() {
        check.topic("promise 21");
        CreditBeams x = scene();
        x.turn(0);
        String before = Looks.all(x);
        check.row("as the first one", row(2, 6, 4),
                x.ifBeam(0, 0, 1, 1, 0), x.ifBeam(0, 0, 1, 1, 1), x.ifBeam(0, 0, 1, 1, 2));
        check.row("some of it", row(1, 5, 197),
                x.ifBeam(3, 11, 0, 9, 0), x.ifBeam(3, 10, 0, 4, 1), x.ifBeam(3, 12, 0, 1, 2));
        check.isTrue("nothing is changed", before.equals(Looks.all(x)));
        for (int i = 1; i < 6; i++) {
            x.beam(0, 50, 0, 1, 1);
        }
        check.row("a seventh one", row(2, 6, 4),
                x.ifBeam(0, 0, 1, 1, 0), x.ifBeam(0, 0, 1, 1, 1), x.ifBeam(0, 0, 1, 1, 2));
        x.turn(0);
        check.row("besides the first one", row(2, 6, 4),
                x.ifBeam(199, 0, 1, 1, 0), x.ifBeam(199, 0, 1, 1, 1), x.ifBeam(199, 0, 1, 1, 2));
        for (int row = 0; row < 6; row++) {
            x.word(1, row + 2, 20, 0);
        }
        x.turn(0);
        check.row("all rows", row(6, 6, 0),
                x.ifBeam(0, 20, 0, 1, 0), x.ifBeam(0, 20, 0, 1, 1), x.ifBeam(0, 20, 0, 1, 2));
        int[][] wrong = {{-1, 0, 0, 1, 0}, {200, 0, 0, 1, 0}, {0, -1, 0, 1, 0}, {0, 60, 0, 1, 0},
            {0, 0, -10, 1, 0}, {0, 0, 10, 1, 0}, {0, 0, 0, 0, 0}, {0, 0, 0, 10, 0}, {0, 0, 0, 1, -1},
            {0, 0, 0, 1, 3}, {LEAST, 0, 0, 1, 0}, {0, MOST, 0, 1, 0}, {0, 0, LEAST, 1, 0},
            {0, 0, 0, MOST, 0}, {0, 0, 0, 1, LEAST}};
        for (int[] w : wrong) {
            check.refuses("ifBeam " + w[0] + " " + w[1] + " " + w[2] + " " + w[3] + " " + w[4], x, ARGUMENT,
                    () -> x.ifBeam(w[0], w[1], w[2], w[3], w[4]));
        }
    }

    private void bestSpeed() {
        check.topic("promise 22");
        CreditBeams x = new CreditBeams();
        check.same("without words", 0, x.bestSpeed(0, 0));
        x.word(3, 0, 10, 0);
        check.same("slowly on", 10, x.bestSpeed(0, 10));
        check.same("slowly back", 7, x.bestSpeed(0, 18));
        check.same("too late", 7, x.bestSpeed(198, 12));
        check.same("back from the edge", 7, x.bestSpeed(0, 59));
        x.cue(0, 199);
        check.same("none", 0, x.bestSpeed(0, 0));
        x.removeWord(0);
        x.word(1, 0, 40, 0);
        check.same("as fast as can be", 18, x.bestSpeed(198, 30));
        CreditBeams y = new CreditBeams();
        y.word(3, 5, 21, 0);
        check.same("the lowest", 0, y.bestSpeed(198, 30));
        y.word(2, 6, 38, 0);
        check.same("most whole words", 17, y.bestSpeed(198, 30));
        y.word(3, 7, 27, 0);
        y.word(1, 4, 38, 0);
        check.same("most letters", 17, y.bestSpeed(198, 30));
        y.word(2, 4, 21, 0);
        check.same("letters before words", 0, y.bestSpeed(198, 30));
        for (int i = 0; i < 6; i++) {
            y.beam(0, 59, 0, 1, 1);
        }
        check.same("a seventh beam", 0, y.bestSpeed(198, 30));
        int[][] wrong = {{-1, 0}, {200, 0}, {0, -1}, {0, 60}, {LEAST, 0}, {MOST, 0}, {0, LEAST}, {0, MOST}};
        for (int[] w : wrong) {
            check.refuses("bestSpeed " + w[0] + " " + w[1], y, ARGUMENT, () -> y.bestSpeed(w[0], w[1]));
        }
    }

    private void clearCue() {
        check.topic("promise 23");
        CreditBeams x = scene();
        check.same("never whole", -1, x.clearCue(1));
        x.beam(30, 0, 1, 1, 255);
        check.same("the first one", 13, x.clearCue(0));
        check.same("the second one", 13, x.clearCue(1));
        x.cue(0, 14);
        check.same("not less than its own", 14, x.clearCue(0));
        check.same("that does not clash", 0, x.clearCue(1));
        check.same("nothing is changed", 14, x.wordOf(0, 3));
        x.cue(0, 41);
        check.same("too late to be whole", -1, x.clearCue(0));
        CreditBeams y = new CreditBeams();
        y.word(1, 0, 5, 199);
        y.beam(0, 5, 0, 1, 1);
        check.same("the last beat", 199, y.clearCue(0));
        y.word(1, 0, 5, 0);
        y.rule(1, 0, 50);
        check.same("while the other one is gone", 0, y.clearCue(1));
        y.cue(0, 0);
        check.same("behind the first one", 4, y.clearCue(1));
        check.same("behind the second one", 52, y.clearCue(0));
        y.set(0, 16);
        check.same("by bars of 16", 64, y.clearCue(0));
        y.word(1, 0, 5, 64);
        check.same("behind both", 80, y.clearCue(0));
        for (int word : row(-1, 3, 8, LEAST, MOST)) {
            check.refuses("the word " + word, y, INDEX, () -> y.clearCue(word));
        }
    }

    private void litShare() {
        check.topic("promise 24");
        CreditBeams x = new CreditBeams();
        check.isTrue("without letters", x.litShare() == 1.0);
        x.word(3, 0, 10, 0);
        check.isTrue("none", x.litShare() == 0.0);
        x.removeWord(0);
        x.word(1, 0, 0, 0);
        check.isTrue("not the only one", x.litShare() == 0.0);
        x.removeWord(0);
        x.word(3, 0, 10, 0);
        x.beam(0, 10, 0, 1, 255);
        check.isTrue("a third", x.litShare() == 1.0 / 3.0);
        x.beam(0, 11, 0, 1, 255);
        check.isTrue("two thirds", x.litShare() == 2.0 / 3.0);
        x.beam(0, 12, 0, 1, 255);
        check.isTrue("all", x.litShare() == 1.0);
        x.word(3, 0, 20, 0);
        check.isTrue("a half", x.litShare() == 0.5);
        x.removeWord(1);
        x.removeWord(0);
        check.isTrue("without letters again", x.litShare() == 1.0);
    }

    private void digest() {
        check.topic("promise 25");
        CreditBeams x = new CreditBeams();
        check.same("new", digestOf(x, "", 4, 4), x.digest());
        x.word(7, 3, 2, 1);
        check.same("with a dark word", digestOf(x, "", 4, 4), x.digest());
        x.undo();
        CreditBeams y = scene();
        check.same("scene", digestOf(y, "", 4, 4), y.digest());
        y.set(0, 9);
        y.set(1, 11);
        Looks.type(y, "w1~!");
        y.beam(20, 30, -2, 5, 77);
        y.word(12, 7, 3, 0);
        check.same("more", digestOf(y, "w1~!", 9, 11), y.digest());
        CreditBeams half = new CreditBeams();
        half.word(2, 0, 10, 0);
        half.beam(0, 10, 0, 1, 255);
        check.same("a half", digestOf(half, "", 4, 4), half.digest());
        for (int[] w : new int[][] {{10, 11}, {0, 100}, {0, 0}, {59, 0}, {20, 20}}) {
            CreditBeams one = new CreditBeams();
            one.word(1, 0, w[0], w[1]);
            check.same("one letter at " + w[0], digestOf(one, "", 4, 4), one.digest());
        }
        // Of every number of lit letters out of every number of letters.
        for (int letters = 1; letters <= 96; letters++) {
            CreditBeams z = new CreditBeams();
            for (int left = letters; left > 0; left -= 12) {
                z.word(Math.min(left, 12), 0, 0, 0);
            }
            z.beam(0, 0, 0, 1 + letters % 9, 255);
            check.same("a share of " + letters, digestOf(z, "", 4, 4), z.digest());
        }
    }

    private static long digestOf(CreditBeams x, String text, int bar, int remembered) {
        long hash = 2903;
        hash = mix(hash, Looks.counts(x));
        hash = mix(hash, bar, remembered);
        for (int word = 0; word < x.count(0); word++) {
            hash = mix(hash, Looks.word(x, word));
            hash = mix(hash, Looks.lit(x, word));
        }
        for (int beam = 0; beam < x.count(1); beam++) {
            hash = mix(hash, Looks.beam(x, beam));
        }
        for (int beat = 0; beat <= 190; beat += 10) {
            hash = mix(hash, Looks.beat(x, beat));
        }
        hash = mix(hash, x.ifBeam(5, 0, 1, 3, 0), x.ifBeam(5, 0, 1, 3, 1), x.ifBeam(5, 0, 1, 3, 2));
        hash = mix(hash, x.bestSpeed(0, 0));
        if (x.count(0) > 0) {
            hash = mix(hash, x.clearCue(0));
        }
        hash = 31 * hash + Double.doubleToLongBits(x.litShare());
        hash = mix(hash, text.length());
        return mix(hash, text.chars().toArray());
    }

    private static long mix(long start, int... values) {
        long hash = start;
        for (int value : values) {
            hash = 31 * hash + value;
        }
        return hash;
    }
}
