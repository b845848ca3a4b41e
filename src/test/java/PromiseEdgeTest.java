/** The promises that look: the least and the most that each can answer, and where its answer turns. */
final class PromiseEdgeTest {
    private static final Class<IllegalArgumentException> ARGUMENT = IllegalArgumentException.class;
    private static final Class<IndexOutOfBoundsException> INDEX = IndexOutOfBoundsException.class;

    private final Checks check;

    private PromiseEdgeTest(Checks check) {
        this.check = check;
    }

    static void run(Checks check) {
        PromiseEdgeTest test = new PromiseEdgeTest(check);
        test.emptyCredits();
        test.fullCredits();
        test.previousValues();
        test.removingTheOnlyOne();
        test.nothingLeftOfTheLastOne();
        test.turning();
        test.propertiesOfAWord();
        test.lettersOfAWord();
        test.beatsOfABeam();
        test.lettersOfABeam();
        test.wordsShineOnNothing();
        test.lowestWordInAPlace();
        test.lastBeatOfGettingWhole();
        test.beatsWithNothing();
        test.clashesAreCountedOnce();
        test.oneMoreBeamIsAsIfAdded();
        test.seventhBeam();
        test.mostLettersThenWordsThenSlow();
        test.bestIsTheBestOfAll();
        test.leastCue();
        test.clearCueOfTheLastBeats();
        test.clearCueIsTheLeastOfAll();
        test.shares();
        test.digestTellsEverything();
    }

    private static int[] row(int... values) {
        return values;
    }

    /** Eight words of 12 letters, all in the same place and in the light of six beams from beat 0 on. */
    private static CreditBeams full() {
        return inLight(8);
    }

    private static CreditBeams inLight(int words) {
        CreditBeams x = new CreditBeams();
        for (int word = 0; word < words; word++) {
            x.word(12, 7, 48, 0);
        }
        for (int beam = 0; beam < 6; beam++) {
            x.beam(0, 48 + 2 * beam, 0, 2, 128);
        }
        return x;
    }

    // ---- empty, full

    private void emptyCredits() {
        check.topic("promise 1: credits without words and beams, with an empty buffer");
        CreditBeams x = new CreditBeams();
        check.row("counts", row(0, 0, 0, 0, 0, -1, 200, 0, 0, 0), Looks.counts(x));
        for (int beat = 0; beat <= 199; beat++) {
            check.row("beat " + beat, row(0, 0, 0, 0, 0), Looks.beat(x, beat));
            check.same("seen in " + beat, -1, x.seen(beat, beat % 8, beat % 60));
        }
        check.refuses("a word's property", x, INDEX, () -> x.wordOf(0, 0));
        check.refuses("a letter", x, INDEX, () -> x.litAt(0, 0));
        check.refuses("a beam's property", x, INDEX, () -> x.beamOf(0, 0));
        check.refuses("a word's rule", x, INDEX, () -> x.rule(0, 0, 0));
        check.refuses("a word's cue", x, INDEX, () -> x.cue(0, 0));
        check.refuses("removing a word", x, INDEX, () -> x.removeWord(0));
        check.refuses("turning a beam", x, INDEX, () -> x.turn(0));
        check.refuses("removing a beam", x, INDEX, () -> x.removeBeam(0));
        check.refuses("a clear cue", x, INDEX, () -> x.clearCue(0));
        check.refuses("reading", x, ARGUMENT, x::read);
        check.same("no error", 0, x.firstError());
        check.same("no length", 0, x.clearBuffer());
        check.row("what a beam brings", row(0, 0, 0),
                x.ifBeam(0, 0, 0, 9, 0), x.ifBeam(0, 0, 0, 9, 1), x.ifBeam(0, 0, 0, 9, 2));
        check.same("the lowest speed", 0, x.bestSpeed(0, 0));
        check.same("the lowest speed at the other end", 0, x.bestSpeed(199, 59));
        check.isTrue("share", x.litShare() == 1.0);
    }

    private void fullCredits() {
        check.topic("promises 18 and 20: the most that there can be");
        CreditBeams x = full();
        check.row("counts", row(8, 6, 96, 96, 8, 0, 196, 4, 28, 6), Looks.counts(x));
        check.row("beat 0", row(96, 8, 8, 28, 6), Looks.beat(x, 0));
        check.row("beat 3", row(96, 8, 8, 28, 6), Looks.beat(x, 3));
        check.row("beat 4", row(0, 0, 0, 0, 6), Looks.beat(x, 4));
        x.rule(7, 2, 50);
        check.row("beat 4, the last one being held", row(12, 1, 1, 0, 6), Looks.beat(x, 4));
        check.same("letters of a beam, by the rule 2, too", 7 * 2 + 12, x.beamOf(0, 6));
        x.rule(7, 0, 4);
        check.row("what one more beam brings", row(8, 96, 4),
                x.ifBeam(0, 48, 0, 9, 0), x.ifBeam(0, 48, 0, 9, 1), x.ifBeam(0, 48, 0, 9, 2));
        for (int beam = 0; beam < 6; beam++) {
            check.row("the beam", row(0, 48 + 2 * beam, 9, 2, 128, 200, 16), Looks.beam(x, beam));
        }
        x.removeBeam(5);
        check.row("without the last one", row(8, 5, 96, 80, 0, -1, 0, 200, 28, 6), Looks.counts(x));
        check.row("beat 199", row(80, 8, 0, 28, 5), Looks.beat(x, 199));
        check.isTrue("share", x.litShare() == 80.0 / 96.0);
    }

    // ---- what changes

    private void previousValues() {
        check.topic("promises 3, 4 and 9: returns the previous one, of this word or setting alone");
        CreditBeams x = new CreditBeams();
        x.word(1, 0, 0, 11);
        x.word(1, 0, 1, 22);
        check.same("rule", 0, x.rule(0, 2, 50));
        check.same("rule of the other one", 0, x.rule(1, 1, 0));
        check.same("rule", 2, x.rule(0, 0, 0));
        check.same("rule of the other one", 1, x.rule(1, 2, 3));
        check.same("cue", 11, x.cue(0, 199));
        check.same("cue of the other one", 22, x.cue(1, 0));
        check.same("cue", 199, x.cue(0, 5));
        check.same("bars", 4, x.set(0, 16));
        check.same("remembered", 4, x.set(1, 0));
        check.same("bars", 16, x.set(0, 1));
        check.same("remembered", 0, x.set(1, 20));
    }

    private void removingTheOnlyOne() {
        check.topic("promises 5 and 8: returns how many there are then");
        CreditBeams x = full();
        for (int left = 7; left >= 0; left--) {
            int last = left;
            check.same("words", left, x.removeWord(left / 2));
            check.same("counted", left, x.count(0));
            check.refuses("the word " + left, x, INDEX, () -> x.removeWord(last));
        }
        for (int left = 5; left >= 0; left--) {
            int last = left;
            check.same("beams", left, x.removeBeam(left / 2));
            check.same("counted", left, x.count(1));
            check.refuses("the beam " + left, x, INDEX, () -> x.removeBeam(last));
        }
        check.same("a new word", 0, x.word(1, 0, 0, 0));
        check.same("a new beam", 0, x.beam(0, 0, 0, 1, 1));
        check.same("lit", 0, x.litAt(0, 0));
    }

    private void nothingLeftOfTheLastOne() {
        check.topic("promises 5 and 8: nothing is left of the eighth word and of the sixth beam");
        CreditBeams x = full();
        x.cue(7, 4);
        check.same("the eighth one is in the first one's way", 8, x.clearCue(0));
        x.removeWord(7);
        everythingSame("words", x, inLight(7));
        CreditBeams z = new CreditBeams();
        for (int beam = 0; beam < 5; beam++) {
            z.beam(0, 59, 0, 1, 1);
        }
        z.word(2, 0, 20, 0);
        z.beam(0, 20, 0, 2, 255);
        check.same("lit by the sixth beam", 2, z.count(3));
        z.removeBeam(5);
        check.row("without it", row(1, 5, 2, 0, 0, -1, 200, 0, 0, 6), Looks.counts(z));
        check.row("beat 0", row(0, 0, 0, 0, 5), Looks.beat(z, 0));
    }

    /** Compares two objects in all that can be seen but for the saved states themselves. */
    private void everythingSame(String what, CreditBeams x, CreditBeams y) {
        check.same(what + ", digest", y.digest(), x.digest());
        check.isTrue(what + ", looks", Looks.all(x).equals(Looks.all(y)));
        for (int beat = 0; beat <= 199; beat++) {
            check.row(what + ", beat " + beat, Looks.beat(y, beat), Looks.beat(x, beat));
            for (int column = 40; column < 60; column++) {
                check.same(what + ", seen in " + beat, y.seen(beat, 7, column), x.seen(beat, 7, column));
            }
        }
        for (int word = 0; word < y.count(0); word++) {
            check.same(what + ", clear cue", y.clearCue(word), x.clearCue(word));
        }
    }

    private void turning() {
        check.topic("promise 7: its speed gets the other sign");
        for (int speed = -9; speed <= 9; speed++) {
            CreditBeams x = new CreditBeams();
            x.word(12, 0, 0, 0);
            x.word(12, 0, 48, 0);
            x.beam(0, 30, speed, 9, 1);
            int before = x.count(3);
            int lit = x.turn(0);
            check.same("speed", 9 - speed, x.beamOf(0, 2));
            check.same("lit then", x.count(3), lit);
            check.same("turned again", before, x.turn(0));
            check.same("speed", 9 + speed, x.beamOf(0, 2));
            check.row("the rest of it", row(0, 30, 9 + speed, 9, 1),
                    x.beamOf(0, 0), x.beamOf(0, 1), x.beamOf(0, 2), x.beamOf(0, 3), x.beamOf(0, 4));
        }
        CreditBeams y = new CreditBeams();
        y.beam(0, 30, 9, 9, 1);
        check.same("without words", 0, y.turn(0));
    }

    // ---- looks

    private void propertiesOfAWord() {
        check.topic("promise 15: NONE for 6, or for 7, if there is none; NONE if it stays to the end");
        CreditBeams x = new CreditBeams();
        x.word(3, 0, 20, 0);
        check.row("no light", row(3, 0, 20, 0, 0, 4, -1, -1, -1, 0), Looks.word(x, 0));
        x.beam(199, 22, 0, 1, 1);
        check.row("one letter", row(3, 0, 20, 0, 0, 4, 199, -1, -1, 1), Looks.word(x, 0));
        x.beam(0, 21, 0, 1, 1);
        check.row("two letters", row(3, 0, 20, 0, 0, 4, 0, -1, -1, 2), Looks.word(x, 0));
        x.beam(10, 20, 0, 1, 1);
        check.row("whole at the end", row(3, 0, 20, 0, 0, 4, 0, 199, -1, 3), Looks.word(x, 0));
        x.beam(0, 20, 0, 9, 1);
        check.row("whole at once", row(3, 0, 20, 0, 0, 4, 0, 0, 4, 3), Looks.word(x, 0));
    }

    private void lettersOfAWord() {
        check.topic("promise 16: its number in the word, from 0 on the left");
        CreditBeams x = new CreditBeams();
        x.word(3, 0, 20, 0);
        x.word(12, 0, 30, 0);
        x.beam(0, 20, 1, 1, 1);
        check.row("from the left", row(0, 1, 2), Looks.lit(x, 0));
        check.same("the last of 12", 21, x.litAt(1, 11));
        check.refuses("left of the first one", x, INDEX, () -> x.litAt(0, -1));
        check.refuses("right of the last one", x, INDEX, () -> x.litAt(0, 3));
        check.refuses("left of the second word's", x, INDEX, () -> x.litAt(1, -1));
        check.refuses("right of the second word's", x, INDEX, () -> x.litAt(1, 12));
        check.refuses("of a third word", x, INDEX, () -> x.litAt(2, 0));
    }

    private void beatsOfABeam() {
        check.topic("promise 17: in how many beats up to 199 it covers some column");
        int[][] rows = {
            // Beat, column, speed, width, and the beats.
            {0, 0, 0, 1, 200}, {199, 0, 0, 1, 1}, {199, 59, 9, 9, 1}, {0, 59, 0, 9, 200}, {1, 0, 0, 1, 199},
            {0, 0, 1, 1, 60}, {0, 59, -1, 1, 60}, {0, 59, -1, 9, 68}, {0, 0, 1, 9, 60}, {140, 0, 1, 1, 60},
            {141, 0, 1, 1, 59}, {0, 0, -1, 1, 1}, {0, 0, -9, 9, 1}, {0, 1, -9, 9, 2}, {0, 50, 9, 1, 2},
            {0, 51, 9, 1, 1}, {0, 9, -9, 1, 2}, {0, 8, -9, 1, 1}, {198, 30, 1, 1, 2},
        };
        for (int[] r : rows) {
            CreditBeams x = new CreditBeams();
            x.beam(r[0], r[1], r[2], r[3], 1);
            String what = r[0] + " " + r[1] + " " + r[2] + " " + r[3];
            check.same("beam " + what, r[4], x.beamOf(0, 5));
            int beats = 0;
            for (int beat = 0; beat <= 199; beat++) {
                beats += x.beat(beat, 4);
            }
            check.same("beat by beat, " + what, r[4], beats);
        }
    }

    private void lettersOfABeam() {
        check.topic("promise 17: those that are lit at some time now, and would not be without this beam");
        CreditBeams x = new CreditBeams();
        x.word(4, 0, 20, 0);
        x.beam(50, 20, 0, 2, 1);
        x.beam(0, 22, 0, 2, 1);
        check.row("each its own", row(2, 2), x.beamOf(0, 6), x.beamOf(1, 6));
        x.beam(60, 21, 0, 2, 1);
        check.row("shared ones are lost by none", row(1, 1, 0), x.beamOf(0, 6), x.beamOf(1, 6), x.beamOf(2, 6));
        x.rule(0, 1, 4);
        check.row("those that wait for it, too", row(4, 1, 0), x.beamOf(0, 6), x.beamOf(1, 6), x.beamOf(2, 6));
        x.rule(0, 2, 4);
        check.row("all of them", row(4, 4, 0), x.beamOf(0, 6), x.beamOf(1, 6), x.beamOf(2, 6));
        x.removeBeam(0);
        check.row("none, where none is lit", row(0, 0), x.beamOf(0, 6), x.beamOf(1, 6));
        CreditBeams y = new CreditBeams();
        y.word(1, 0, 20, 0);
        y.beam(0, 20, 0, 1, 1);
        y.beam(0, 20, 0, 1, 1);
        check.row("two that are alike", row(0, 0), y.beamOf(0, 6), y.beamOf(1, 6));
        CreditBeams z = new CreditBeams();
        for (int row = 0; row < 8; row++) {
            z.word(row + 1, row, 20, 0);
        }
        z.beam(0, 20, 0, 8, 255);
        z.beam(100, 20, 0, 8, 128);
        check.row("of all words", row(28, 0), z.beamOf(0, 6), z.beamOf(1, 6));
        z.removeBeam(1);
        check.same("of eight words", 36, z.beamOf(0, 6));
        z.removeWord(7);
        check.same("of seven words", 28, z.beamOf(0, 6));
    }

    private void wordsShineOnNothing() {
        check.topic("promises 17 and 18: the beams that there are, and no word, light or cover columns");
        CreditBeams x = new CreditBeams();
        for (int word = 0; word < 8; word++) {
            x.word(1, 0, 20, 0);
            x.rule(word, 2, 50);
        }
        for (int beat = 0; beat <= 199; beat++) {
            check.row("without a beam in " + beat, row(0, 0, 0, 0, 0), Looks.beat(x, beat));
        }
        for (int hold = 0; hold <= 50; hold++) {
            for (int word = 0; word < 8; word++) {
                x.rule(word, 2, hold);
            }
            x.beam(9, 20, 0, 1, 255);
            check.same("letters of the only beam, hold " + hold, 8, x.beamOf(0, 6));
            check.row("beams in its first beat and ahead of it", row(1, 0), x.beat(9, 4), x.beat(8, 4));
            x.removeBeam(0);
        }
    }

    private void lowestWordInAPlace() {
        check.topic("promise 19: the lowest word of which a letter is seen there");
        CreditBeams x = full();
        for (int beat = 0; beat < 4; beat++) {
            check.same("of eight, in " + beat, 0, x.seen(beat, 7, 59));
        }
        check.same("none, all being gone", -1, x.seen(4, 7, 59));
        for (int word = 0; word < 8; word++) {
            x.cue(word, 199 - 20 * word);
        }
        for (int beat = 0; beat <= 199; beat++) {
            int lowest = -1;
            for (int word = 0; word < 8; word++) {
                int whole = 199 - 20 * word;
                boolean there = beat >= whole && beat < (whole + 7) / 4 * 4;
                lowest = lowest < 0 && there ? word : lowest;
            }
            check.same("in " + beat, lowest, x.seen(beat, 7, 48));
            check.same("in the row above in " + beat, -1, x.seen(beat, 6, 48));
            check.same("left of it in " + beat, -1, x.seen(beat, 7, 47));
        }
    }

    private void lastBeatOfGettingWhole() {
        check.topic("promise 20: the last beat in which a word gets whole, NONE without one");
        CreditBeams x = new CreditBeams();
        check.same("without a word", -1, x.count(5));
        x.word(2, 0, 20, 0);
        x.beam(0, 20, 0, 1, 1);
        check.same("without a whole one", -1, x.count(5));
        x.word(1, 0, 20, 0);
        check.same("the first beat", 0, x.count(5));
        x.word(1, 0, 20, 199);
        check.same("the last beat", 199, x.count(5));
        x.word(1, 0, 20, 7);
        check.same("the last one, not the latest word's", 199, x.count(5));
        check.same("words that get whole", 3, x.count(4));
    }

    private void beatsWithNothing() {
        check.topic("promise 20: beats in which nothing is seen");
        CreditBeams x = new CreditBeams();
        check.same("without words", 200, x.count(6));
        x.word(2, 0, 20, 0);
        check.same("without light", 200, x.count(6));
        x.beam(199, 20, 0, 1, 1);
        check.same("but for the last beat", 199, x.count(6));
        x.beam(0, 21, 0, 1, 1);
        check.same("none", 0, x.count(6));
        x.word(1, 3, 21, 50);
        x.removeWord(0);
        x.removeBeam(1);
        x.beam(0, 21, 0, 1, 8);
        check.same("but for 50 to 55", 194, x.count(6));
        x.word(1, 4, 21, 53);
        x.removeBeam(1);
        x.beam(0, 21, 0, 1, 24);
        check.same("but for 50 to 59", 190, x.count(6));
    }

    private void clashesAreCountedOnce() {
        check.topic("promise 20: beats in which some words clash; pairs of words that clash in some beat");
        CreditBeams x = full();
        int[][] rows = {{8, 4, 28}, {7, 4, 21}, {6, 4, 15}, {5, 4, 10}, {4, 4, 6}, {3, 4, 3}, {2, 4, 1}, {1, 0, 0}};
        for (int[] r : rows) {
            check.row("words, beats, pairs", r, x.count(0), x.count(7), x.count(8));
            check.same("in one beat", r[2], x.beat(2, 3));
            x.removeWord(0);
        }
        CreditBeams y = new CreditBeams();
        y.word(1, 0, 20, 0);
        y.word(1, 0, 20, 3);
        y.word(1, 0, 20, 7);
        y.beam(0, 20, 0, 1, 1);
        // They are there from 0 to 3, from 3 to 7, from 7 to 11.
        check.row("the neighbours clash", row(2, 2), y.count(7), y.count(8));
        check.row("in 3 and 7 alone", row(0, 1, 0, 1, 0),
                y.beat(2, 3), y.beat(3, 3), y.beat(4, 3), y.beat(7, 3), y.beat(8, 3));
    }

    // ---- what would be

    /** Words and beams by a number, so that many of them differ. */
    private static CreditBeams mixed(int number) {
        CreditBeams x = new CreditBeams();
        for (int word = 0; word < 1 + number % 8; word++) {
            int letters = 1 + (5 * number + 3 * word) % 12;
            x.word(letters, word % 3, (7 * number + 4 * word) % (61 - letters), (11 * number * word) % 90);
            x.rule(word, (number + word) % 3, (13 * number + word) % 51);
        }
        for (int beam = 0; beam < number % 6; beam++) {
            x.beam((17 * number + 9 * beam) % 100, (23 * number + 31 * beam) % 60,
                    (number + 5 * beam) % 19 - 9, 1 + (number + beam) % 9, 1 + (37 * number + beam) % 255);
        }
        x.set(0, 1 + number % 16);
        x.set(1, number % 21);
        return x;
    }

    private void oneMoreBeamIsAsIfAdded() {
        check.topic("promise 21: what one more beam, that lights all rows, would bring");
        for (int number = 0; number < 60; number++) {
            CreditBeams x = mixed(number);
            for (int beat : row(0, 1, 40, 199)) {
                for (int column : row(0, 25, 59)) {
                    int speed = (beat + column + number) % 19 - 9;
                    int width = 1 + (number + column) % 9;
                    int[] would = row(x.ifBeam(beat, column, speed, width, 0),
                            x.ifBeam(beat, column, speed, width, 1), x.ifBeam(beat, column, speed, width, 2));
                    x.beam(beat, column, speed, width, 255);
                    check.row("in " + number + " at " + beat + " " + column,
                            row(x.count(4), x.count(3), x.count(7)), would);
                    x.undo();
                }
            }
        }
    }

    private void seventhBeam() {
        check.topic("promise 21: there may be 6 already");
        CreditBeams x = new CreditBeams();
        x.word(2, 0, 20, 0);
        x.word(1, 0, 21, 0);
        for (int beam = 0; beam < 6; beam++) {
            x.beam(0, 20, 0, 1, 1);
        }
        check.row("far off", row(0, 1, 0),
                x.ifBeam(0, 0, 0, 9, 0), x.ifBeam(0, 0, 0, 9, 1), x.ifBeam(0, 0, 0, 9, 2));
        check.row("in the last beat", row(2, 3, 1),
                x.ifBeam(199, 21, 0, 1, 0), x.ifBeam(199, 21, 0, 1, 1), x.ifBeam(199, 21, 0, 1, 2));
        check.row("from the first beat", row(2, 3, 4),
                x.ifBeam(0, 21, 0, 1, 0), x.ifBeam(0, 21, 0, 1, 1), x.ifBeam(0, 21, 0, 1, 2));
        check.same("the best speed of a seventh one", 0, x.bestSpeed(0, 21));
        check.same("that comes from the right", 7, x.bestSpeed(0, 22));
        check.row("nothing is changed", row(6, 1, 0), x.count(1), x.count(3), x.count(4));
    }

    private void mostLettersThenWordsThenSlow() {
        check.topic("promise 22: most letters, of several most words, of several the lowest speed");
        CreditBeams x = new CreditBeams();
        x.word(2, 0, 39, 0);
        // With a width of 2, from column 30 in beat 198 on, the speed 9 comes to 39 and 40.
        check.same("the highest speed", 18, x.bestSpeed(198, 30));
        x.word(2, 1, 21, 0);
        check.same("the lowest speed of two as good", 0, x.bestSpeed(198, 30));
        x.removeWord(1);
        x.word(3, 1, 21, 0);
        check.same("as many letters, but more words", 18, x.bestSpeed(198, 30));
        x.word(1, 2, 22, 0);
        check.same("more letters", 0, x.bestSpeed(198, 30));
        x.word(1, 2, 40, 0);
        check.same("as many letters again", 18, x.bestSpeed(198, 30));
        check.same("in the last beat none makes a difference", 0, x.bestSpeed(199, 30));
        CreditBeams y = new CreditBeams();
        y.word(3, 0, 30, 0);
        y.rule(0, 1, 4);
        check.same("by the rule 1, from the left", 10, y.bestSpeed(0, 28));
        CreditBeams z = new CreditBeams();
        z.word(12, 7, 0, 0);
        z.word(6, 7, 12, 0);
        check.same("the width is 2, of six beats", 11, z.bestSpeed(194, 0));
    }

    private void bestIsTheBestOfAll() {
        check.topic("promise 22: the best by what ifBeam tells");
        for (int number = 0; number < 60; number++) {
            CreditBeams x = mixed(number);
            for (int beat : row(0, 30, 198, 199)) {
                int column = (number * 13 + beat) % 60;
                int best = 0;
                for (int speed = 1; speed <= 18; speed++) {
                    int letters = x.ifBeam(beat, column, speed - 9, 2, 1) - x.ifBeam(beat, column, best - 9, 2, 1);
                    int words = x.ifBeam(beat, column, speed - 9, 2, 0) - x.ifBeam(beat, column, best - 9, 2, 0);
                    best = letters > 0 || letters == 0 && words > 0 ? speed : best;
                }
                check.same("in " + number + " at " + beat + " " + column, best, x.bestSpeed(beat, column));
            }
        }
    }

    private void leastCue() {
        check.topic("promise 23: the least cue, not less than its own, with which it would get whole and not clash");
        CreditBeams x = new CreditBeams();
        x.word(1, 0, 20, 0);
        x.word(1, 0, 20, 0);
        x.beam(0, 20, 0, 1, 1);
        check.row("behind the other one", row(4, 4), x.clearCue(0), x.clearCue(1));
        x.cue(1, 3);
        check.row("when the other one has gone", row(8, 4), x.clearCue(0), x.clearCue(1));
        x.cue(1, 4);
        check.row("its own cue", row(0, 4), x.clearCue(0), x.clearCue(1));
        x.cue(0, 5);
        check.row("not an earlier one", row(8, 12), x.clearCue(0), x.clearCue(1));
        x.cue(0, 199);
        check.same("the last beat", 199, x.clearCue(0));
        x.cue(1, 199);
        check.row("none behind it", row(-1, -1), x.clearCue(0), x.clearCue(1));
    }

    private void clearCueOfTheLastBeats() {
        check.topic("promise 23: up to 199; NONE if there is none");
        CreditBeams x = new CreditBeams();
        x.word(2, 0, 20, 199);
        check.same("never whole", -1, x.clearCue(0));
        x.beam(0, 20, 0, 1, 1);
        check.same("never whole with one letter lit", -1, x.clearCue(0));
        x.beam(0, 21, 0, 1, 1);
        check.same("whole in the last beat", 199, x.clearCue(0));
        x.word(1, 0, 21, 199);
        check.same("but not alone in it", -1, x.clearCue(0));
        x.removeWord(1);
        x.word(3, 0, 21, 150);
        x.cue(0, 0);
        check.same("before the one that stays to the end", 0, x.clearCue(0));
        x.rule(0, 0, 50);
        x.cue(0, 98);
        check.same("gone when it comes", 98, x.clearCue(0));
        x.cue(0, 99);
        check.same("not gone when it comes", -1, x.clearCue(0));
    }

    private void clearCueIsTheLeastOfAll() {
        check.topic("promise 23: as one finds by trying each cue");
        for (int number = 0; number < 30; number++) {
            CreditBeams x = mixed(number);
            int words = x.count(0);
            for (int word = 0; word < words; word += 3) {
                int own = x.wordOf(word, 3);
                int answer = x.clearCue(word);
                int least = -1;
                for (int cue = 199; cue >= own; cue--) {
                    x.cue(word, cue);
                    least = x.wordOf(word, 7) >= 0 && isAlone(x, word) ? cue : least;
                }
                x.cue(word, own);
                check.same("in " + number + " of the word " + word, least, answer);
            }
        }
    }

    /** Tells whether a word, that gets whole, is the only one in its places for as long as it is seen. */
    private static boolean isAlone(CreditBeams x, int word) {
        int end = x.wordOf(word, 8) >= 0 ? x.wordOf(word, 8) : 200;
        for (int other = 0; other < x.count(0); other++) {
            int otherEnd = x.wordOf(other, 8) >= 0 ? x.wordOf(other, 8) : 200;
            boolean sameRow = other != word && x.wordOf(other, 1) == x.wordOf(word, 1);
            for (int letter = 0; sameRow && letter < x.wordOf(word, 0); letter++) {
                int there = x.wordOf(word, 2) + letter - x.wordOf(other, 2);
                boolean meets = there >= 0 && there < x.wordOf(other, 0) && x.litAt(other, there) >= 0;
                int since = meets ? Math.max(x.litAt(word, letter), x.litAt(other, there)) : 200;
                if (since < Math.min(end, otherEnd)) {
                    return false;
                }
            }
        }
        return true;
    }

    private void shares() {
        check.topic("promise 24: as a double, divided by all letters; 1.0 without letters");
        for (int letters = 1; letters <= 96; letters++) {
            for (int width = 1; width <= 9; width += 4) {
                CreditBeams x = new CreditBeams();
                int lit = 0;
                for (int left = letters; left > 0; left -= 12) {
                    x.word(Math.min(left, 12), 0, 0, 0);
                    lit += Math.min(Math.min(left, 12), width);
                }
                check.isTrue("none of " + letters, x.litShare() == 0.0);
                x.beam(0, 0, 0, width, 1);
                check.isTrue(lit + " of " + letters, x.litShare() == (double) lit / letters);
            }
        }
        check.isTrue("without letters", new CreditBeams().litShare() == 1.0);
    }

    private void digestTellsEverything() {
        check.topic("promise 25: each part of the state is in the hash");
        CreditBeams x = mixed(12);
        long before = x.digest();
        check.same("the same one again", before, x.digest());
        x.append('!');
        check.isTrue("a character", x.digest() != before);
        x.clearBuffer();
        x.append('"');
        long other = x.digest();
        x.clearBuffer();
        x.append('!');
        check.isTrue("which character", x.digest() != other);
        x.clearBuffer();
        check.same("none again", before, x.digest());
        CreditBeams y = new CreditBeams();
        y.word(1, 0, 59, 0);
        long first = y.digest();
        y.word(1, 0, 58, 0);
        y.removeWord(1);
        check.isTrue("saved states", y.digest() != first);
        y.undo();
        y.undo();
        check.same("without them", first, y.digest());
    }
}
