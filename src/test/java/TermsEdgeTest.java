import java.util.Arrays;

/** The chapter Terms: a test for each of its sentences that names a boundary. */
final class TermsEdgeTest {
    private static final Class<IllegalArgumentException> ARGUMENT = IllegalArgumentException.class;
    private static final Class<IllegalStateException> STATE = IllegalStateException.class;
    private static final Class<IndexOutOfBoundsException> INDEX = IndexOutOfBoundsException.class;

    private final Checks check;

    private TermsEdgeTest(Checks check) {
        this.check = check;
    }

    static void run(Checks check) {
        TermsEdgeTest test = new TermsEdgeTest(check);
        test.beatsAreFrom0To199();
        test.barsBeginAtMultiples();
        test.firstBarBeginsAt0();
        test.atMost8Words();
        test.wordsBehindARemovedOne();
        test.wordsHave1To12Letters();
        test.rowsAreFrom0To7();
        test.columnsAreFrom0To59();
        test.cuesRulesAndHolds();
        test.atMost6Beams();
        test.beamsBehindARemovedOne();
        test.partsOfABeam();
        test.masksTellRows();
        test.beamsCoverTheirWidth();
        test.beamsEndWhereColumnsEnd();
        test.settings();
    }

    private static int[] row(int... values) {
        return values;
    }

    /** A word of one letter that a beam lights in each beat from its cue on. */
    private static CreditBeams underLight(int cue) {
        CreditBeams x = new CreditBeams();
        x.word(1, 0, 20, cue);
        x.beam(0, 20, 0, 1, 1);
        return x;
    }

    // ---- time

    private void beatsAreFrom0To199() {
        check.topic("Time is told in beats, 0 to 199");
        CreditBeams first = underLight(0);
        check.same("lit in the first beat", 0, first.litAt(0, 0));
        check.row("the first beat", row(1, 1, 1, 0, 1), Looks.beat(first, 0));
        check.same("seen in the first beat", 0, first.seen(0, 0, 20));
        CreditBeams last = underLight(199);
        check.same("lit in the last beat", 199, last.litAt(0, 0));
        check.row("the last beat but one", row(0, 0, 0, 0, 1), Looks.beat(last, 198));
        check.row("the last beat", row(1, 1, 1, 0, 1), Looks.beat(last, 199));
        check.same("not seen in the last beat but one", -1, last.seen(198, 0, 20));
        check.same("seen in the last beat", 0, last.seen(199, 0, 20));
        for (int beat : row(-1, 200)) {
            check.refuses("word at " + beat, last, ARGUMENT, () -> last.word(1, 0, 0, beat));
            check.refuses("cue at " + beat, last, ARGUMENT, () -> last.cue(0, beat));
            check.refuses("beam at " + beat, last, ARGUMENT, () -> last.beam(beat, 0, 0, 1, 1));
            check.refuses("beat " + beat, last, ARGUMENT, () -> last.beat(beat, 0));
            check.refuses("seen in " + beat, last, ARGUMENT, () -> last.seen(beat, 0, 0));
            check.refuses("ifBeam at " + beat, last, ARGUMENT, () -> last.ifBeam(beat, 0, 0, 1, 0));
            check.refuses("bestSpeed at " + beat, last, ARGUMENT, () -> last.bestSpeed(beat, 0));
        }
    }

    private void barsBeginAtMultiples() {
        check.topic("The beats 0, 1, 2 and so on times setting 0 are the beginnings of bars");
        CreditBeams x = underLight(0);
        for (int bar = 1; bar <= 16; bar++) {
            x.set(0, bar);
            for (int hold : row(0, 1, 2, bar - 1, bar, bar + 1, 49, 50)) {
                x.rule(0, 0, hold);
                for (int whole = 0; whole <= 199; whole++) {
                    x.cue(0, whole);
                    int bars = hold == 0 ? whole / bar + 1 : (whole + hold + bar - 1) / bar;
                    int goes = bars * bar <= 199 ? bars * bar : -1;
                    check.same("whole in " + whole + ", held for " + hold + ", bars of " + bar,
                            goes, x.wordOf(0, 8));
                }
            }
        }
    }

    private void firstBarBeginsAt0() {
        check.topic("It is more than that beat, also for a word that is whole in the beat 0");
        CreditBeams x = underLight(0);
        x.rule(0, 0, 0);
        for (int bar = 1; bar <= 16; bar++) {
            x.set(0, bar);
            check.same("bars of " + bar, bar, x.wordOf(0, 8));
        }
    }

    // ---- words

    private void atMost8Words() {
        check.topic("There are at most 8 words, numbered from 0 in the order in which they came");
        CreditBeams x = new CreditBeams();
        for (int number = 0; number < 8; number++) {
            check.same("number", number, x.word(number + 1, number, number, number));
            check.same("words", number + 1, x.count(0));
        }
        check.refuses("a ninth one", x, STATE, () -> x.word(1, 0, 0, 0));
        for (int number = 0; number < 8; number++) {
            check.row("the word " + number, row(number + 1, number, number, number, 0, 4, -1, -1, -1, 0),
                    Looks.word(x, number));
        }
        check.same("one less", 7, x.removeWord(7));
        check.same("room for another one", 7, x.word(9, 0, 0, 0));
        check.refuses("but for one alone", x, STATE, () -> x.word(1, 0, 0, 0));
        x.undo();
        check.same("room for it again", 7, x.word(10, 0, 0, 0));
    }

    private void wordsBehindARemovedOne() {
        check.topic("If a word is removed, those behind it have numbers that are less by 1");
        for (int gone = 0; gone < 8; gone++) {
            CreditBeams x = new CreditBeams();
            for (int number = 0; number < 8; number++) {
                x.word(number + 1, number, 10 + number, 20 + number);
                x.rule(number, number % 3, 30 + number);
            }
            check.same("words", 7, x.removeWord(gone));
            for (int number = 0; number < 7; number++) {
                int old = number < gone ? number : number + 1;
                check.row("the word " + number + " without " + gone,
                        row(old + 1, old, 10 + old, 20 + old, old % 3, 30 + old, -1, -1, -1, 0),
                        Looks.word(x, number));
            }
            check.refuses("the last number", x, INDEX, () -> x.wordOf(7, 0));
        }
    }

    private void wordsHave1To12Letters() {
        check.topic("A word has 1 to 12 letters, one behind the other");
        for (int letters = 1; letters <= 12; letters++) {
            int count = letters;
            CreditBeams x = new CreditBeams();
            check.same("at the left edge", 0, x.word(count, 0, 0, 0));
            check.same("at the right edge", 1, x.word(count, 1, 60 - count, 0));
            check.refuses("beyond it", x, ARGUMENT, () -> x.word(count, 0, 61 - count, 0));
            check.same("letters", count, x.wordOf(0, 0));
            check.same("letters of both", 2 * count, x.count(2));
            x.beam(0, 0, 1, 1, 255);
            for (int letter = 0; letter < count; letter++) {
                check.same("a letter on the left", letter, x.litAt(0, letter));
                check.same("a letter on the right", 60 - count + letter, x.litAt(1, letter));
            }
            check.refuses("the letter " + count, x, INDEX, () -> x.litAt(0, count));
        }
        CreditBeams y = new CreditBeams();
        check.refuses("no letter", y, ARGUMENT, () -> y.word(0, 0, 0, 0));
        check.refuses("13 letters", y, ARGUMENT, () -> y.word(13, 0, 0, 0));
    }

    private void rowsAreFrom0To7() {
        check.topic("A word has a row, 0 to 7");
        CreditBeams x = new CreditBeams();
        for (int row = 0; row <= 7; row++) {
            check.same("its word", row, x.word(1, row, 5, 0));
            check.same("its row", row, x.wordOf(row, 1));
        }
        x.beam(0, 5, 0, 1, 255);
        for (int row = 0; row <= 7; row++) {
            check.same("seen in its row", row, x.seen(0, row, 5));
        }
        CreditBeams y = underLight(0);
        for (int wrong : row(-1, 8)) {
            check.refuses("word in row " + wrong, y, ARGUMENT, () -> y.word(1, wrong, 0, 0));
            check.refuses("seen in row " + wrong, y, ARGUMENT, () -> y.seen(0, wrong, 0));
        }
    }

    private void columnsAreFrom0To59() {
        check.topic("All columns are 0 to 59");
        for (int column = 0; column <= 59; column++) {
            CreditBeams x = new CreditBeams();
            x.word(1, 7, column, 0);
            x.beam(0, column, 0, 1, 128);
            check.same("the word's column", column, x.wordOf(0, 2));
            check.same("the beam's column", column, x.beamOf(0, 1));
            check.same("lit", 0, x.litAt(0, 0));
            for (int other = 0; other <= 59; other++) {
                check.same("seen in " + other, other == column ? 0 : -1, x.seen(0, 7, other));
            }
        }
        CreditBeams y = underLight(0);
        for (int wrong : row(-1, 60)) {
            check.refuses("word in column " + wrong, y, ARGUMENT, () -> y.word(1, 0, wrong, 0));
            check.refuses("beam in column " + wrong, y, ARGUMENT, () -> y.beam(0, wrong, 0, 1, 1));
            check.refuses("seen in column " + wrong, y, ARGUMENT, () -> y.seen(0, 0, wrong));
            check.refuses("ifBeam in column " + wrong, y, ARGUMENT, () -> y.ifBeam(0, wrong, 0, 1, 0));
            check.refuses("bestSpeed in column " + wrong, y, ARGUMENT, () -> y.bestSpeed(0, wrong));
        }
    }

    private void cuesRulesAndHolds() {
        check.topic("A cue, 0 to 199; a rule, 0 to 2; and a hold, 0 to 50 beats");
        CreditBeams x = underLight(7);
        for (int cue = 0; cue <= 199; cue++) {
            check.same("the cue before", cue == 0 ? 7 : cue - 1, x.cue(0, cue));
            check.same("the cue", cue, x.wordOf(0, 3));
        }
        int before = 0;
        for (int rule = 0; rule <= 2; rule++) {
            for (int hold = 0; hold <= 50; hold++) {
                check.same("the rule before", before, x.rule(0, rule, hold));
                check.same("the rule", rule, x.wordOf(0, 4));
                check.same("the hold", hold, x.wordOf(0, 5));
                before = rule;
            }
        }
        check.refuses("the rule -1", x, ARGUMENT, () -> x.rule(0, -1, 0));
        check.refuses("the rule 3", x, ARGUMENT, () -> x.rule(0, 3, 0));
        check.refuses("the hold -1", x, ARGUMENT, () -> x.rule(0, 0, -1));
        check.refuses("the hold 51", x, ARGUMENT, () -> x.rule(0, 0, 51));
    }

    // ---- beams

    private void atMost6Beams() {
        check.topic("There are at most 6 beams, numbered likewise");
        CreditBeams x = new CreditBeams();
        for (int number = 0; number < 6; number++) {
            check.same("number", number, x.beam(100 + number, number, number, number + 1, number + 1));
            check.same("beams", number + 1, x.count(1));
        }
        check.refuses("a seventh one", x, STATE, () -> x.beam(0, 0, 0, 1, 1));
        check.same("one less", 5, x.removeBeam(5));
        check.same("room for another one", 5, x.beam(0, 0, 0, 1, 1));
        check.refuses("but for one alone", x, STATE, () -> x.beam(0, 0, 0, 1, 1));
        x.undo();
        check.same("room for it again", 5, x.beam(0, 0, 0, 2, 1));
    }

    private void beamsBehindARemovedOne() {
        check.topic("If a beam is removed, those behind it have numbers that are less by 1");
        for (int gone = 0; gone < 6; gone++) {
            CreditBeams x = new CreditBeams();
            for (int number = 0; number < 6; number++) {
                x.beam(190 + number, 10 * number, 0, number + 1, 40 * number + 1);
            }
            check.same("beams", 5, x.removeBeam(gone));
            for (int number = 0; number < 5; number++) {
                int old = number < gone ? number : number + 1;
                check.row("the beam " + number + " without " + gone,
                        row(190 + old, 10 * old, 9, old + 1, 40 * old + 1, 10 - old, 0),
                        Looks.beam(x, number));
            }
            check.refuses("the last number", x, INDEX, () -> x.beamOf(5, 0));
            check.same("the setting 0", 4, x.set(0, 4));
            check.same("the setting 1", 4, x.set(1, 4));
        }
    }

    private void partsOfABeam() {
        check.topic("A first beat, 0 to 199; a first column, 0 to 59; a speed, -9 to 9; a width, 1 to 9");
        CreditBeams x = new CreditBeams();
        for (int beat = 0; beat <= 199; beat++) {
            x.beam(beat, 0, 0, 1, 1);
            check.same("its first beat", beat, x.beamOf(0, 0));
            check.same("its beats", 200 - beat, x.beamOf(0, 5));
            x.removeBeam(0);
        }
        for (int speed = -9; speed <= 9; speed++) {
            x.beam(0, 30, speed, 1, 1);
            check.same("its speed, plus 9", speed + 9, x.beamOf(0, 2));
            x.removeBeam(0);
        }
        for (int width = 1; width <= 9; width++) {
            x.beam(0, 30, 0, width, 1);
            check.same("its width", width, x.beamOf(0, 3));
            x.removeBeam(0);
        }
        for (int rows = 1; rows <= 255; rows++) {
            x.beam(0, 30, 0, 1, rows);
            check.same("its rows", rows, x.beamOf(0, 4));
            x.removeBeam(0);
        }
        int[][] wrong = {{0, 0, -10, 1, 1}, {0, 0, 10, 1, 1}, {0, 0, 0, 0, 1}, {0, 0, 0, 10, 1},
            {0, 0, 0, 1, 0}, {0, 0, 0, 1, 256}};
        for (int[] w : wrong) {
            check.refuses("beam " + w[2] + " " + w[3] + " " + w[4], x, ARGUMENT,
                    () -> x.beam(w[0], w[1], w[2], w[3], w[4]));
        }
    }

    private void masksTellRows() {
        check.topic("A mask of 1 to 255: bit k for the row k");
        CreditBeams x = new CreditBeams();
        for (int row = 0; row <= 7; row++) {
            x.word(1, row, 30, 0);
        }
        for (int rows = 1; rows <= 255; rows++) {
            x.beam(3, 30, 0, 1, rows);
            for (int row = 0; row <= 7; row++) {
                check.same("the row " + row + " by the mask " + rows,
                        rows / (1 << row) % 2 == 1 ? 3 : -1, x.litAt(row, 0));
            }
            x.removeBeam(0);
        }
    }

    private void beamsCoverTheirWidth() {
        check.topic("It covers its width of columns from first column + speed times (t - first beat) on");
        CreditBeams x = new CreditBeams();
        for (int word = 0; word < 5; word++) {
            x.word(12, 3, 12 * word, 0);
        }
        for (int first : row(0, 1, 150, 198, 199)) {
            for (int column : row(0, 1, 29, 58, 59)) {
                for (int speed = -9; speed <= 9; speed++) {
                    for (int width = 1; width <= 9; width++) {
                        coversWhatItShould(x, first, column, speed, width);
                    }
                }
            }
        }
    }

    private void coversWhatItShould(CreditBeams x, int first, int column, int speed, int width) {
        int[] lit = new int[60];
        Arrays.fill(lit, -1);
        int beats = 0;
        for (int beat = 199; beat >= first; beat--) {
            int start = column + speed * (beat - first);
            boolean some = false;
            for (int each = start; each < start + width; each++) {
                if (each >= 0 && each <= 59) {
                    lit[each] = beat;
                    some = true;
                }
            }
            beats += some ? 1 : 0;
        }
        x.beam(first, column, speed, width, 8);
        int[] got = new int[60];
        for (int each = 0; each < 60; each++) {
            got[each] = x.litAt(each / 12, each % 12);
        }
        String beam = "beam " + first + " " + column + " " + speed + " " + width;
        check.row(beam + " lighting", lit, got);
        check.same(beam + " covering", beats, x.beamOf(0, 5));
        x.removeBeam(0);
    }

    private void beamsEndWhereColumnsEnd() {
        check.topic("As far as they are columns: none of the other side, none of another row");
        CreditBeams x = new CreditBeams();
        x.word(12, 0, 0, 0);
        x.word(12, 0, 48, 0);
        x.word(12, 1, 0, 0);
        x.word(12, 1, 48, 0);
        x.beam(0, 59, 0, 9, 1);
        check.same("at the right edge, one letter", 1, x.count(3));
        check.same("the last one", 0, x.litAt(1, 11));
        x.removeBeam(0);
        x.beam(0, 0, -1, 9, 2);
        check.same("over the left edge, 9 letters", 9, x.count(3));
        check.row("all in the first beat", row(0, 0, 0, 0, 0, 0, 0, 0, 0, -1, -1, -1), Looks.lit(x, 2));
        check.same("covering until beat 8", 1, x.beat(8, 4));
        check.same("and not in beat 9", 0, x.beat(9, 4));
        x.removeBeam(0);
        x.beam(0, 51, 1, 9, 2);
        check.same("over the right edge, 9 letters", 9, x.count(3));
        check.same("covering until beat 8", 1, x.beat(8, 4));
        check.same("and not in beat 9", 0, x.beat(9, 4));
        x.removeBeam(0);
        x.beam(0, 59, 9, 1, 255);
        for (int beat = 1; beat <= 199; beat++) {
            check.same("off for good in beat " + beat, 0, x.beat(beat, 4));
        }
        check.same("two letters, one in each row", 2, x.count(3));
        x.removeBeam(0);
        x.beam(0, 0, -9, 1, 255);
        for (int beat = 1; beat <= 199; beat++) {
            check.same("off for good on the left in beat " + beat, 0, x.beat(beat, 4));
        }
    }

    // ---- settings

    private void settings() {
        check.topic("The beats of a bar, 1 to 16, at first 4; remembered, 0 to 20, at first 4");
        CreditBeams x = new CreditBeams();
        for (int bar = 1; bar <= 16; bar++) {
            check.same("bars before", bar == 1 ? 4 : bar - 1, x.set(0, bar));
        }
        for (int beats = 0; beats <= 20; beats++) {
            check.same("remembered before", beats == 0 ? 4 : beats - 1, x.set(1, beats));
        }
        check.same("bars", 16, x.set(0, 16));
        check.same("remembered", 20, x.set(1, 20));
        check.refuses("bars of 0", x, ARGUMENT, () -> x.set(0, 0));
        check.refuses("bars of 17", x, ARGUMENT, () -> x.set(0, 17));
        check.refuses("bars of 20, as much as may be remembered", x, ARGUMENT, () -> x.set(0, 20));
        check.refuses("-1 remembered", x, ARGUMENT, () -> x.set(1, -1));
        check.refuses("21 remembered", x, ARGUMENT, () -> x.set(1, 21));
        check.refuses("the setting -1", x, INDEX, () -> x.set(-1, 4));
        check.refuses("the setting 2", x, INDEX, () -> x.set(2, 4));
    }
}
