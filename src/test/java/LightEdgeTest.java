/** The chapter Lighting: a test for each of its sentences, at the beats where it turns. */
final class LightEdgeTest {
    private final Checks check;

    private LightEdgeTest(Checks check) {
        this.check = check;
    }

    static void run(Checks check) {
        LightEdgeTest test = new LightEdgeTest(check);
        test.fromTheCueOn();
        test.inItsRowAndColumn();
        test.byRule0();
        test.byRule1();
        test.leftmostWaitsForNone();
        test.byRule2();
        test.rememberedBeats();
        test.rememberedFromTheCueOn();
        test.notAheadOfTime();
        test.upTo199();
        test.wholeFrom();
        test.goesAtABar();
        test.staysToTheEnd();
        test.seenFromTo();
        test.clashInOnePlace();
        test.clashWhileBothAreSeen();
    }

    private static int[] row(int... values) {
        return values;
    }

    /** A beam that covers a column in one beat alone, and none of the 8 columns behind it. */
    private static void flash(CreditBeams x, int beat, int column) {
        x.beam(beat, column, 9, 1, 1);
    }

    private void fromTheCueOn() {
        check.topic("A letter can be lit in a beat from the cue of its word on");
        CreditBeams x = new CreditBeams();
        x.word(1, 0, 20, 0);
        flash(x, 50, 20);
        int[][] rows = {{0, 50}, {49, 50}, {50, 50}, {51, -1}, {199, -1}};
        for (int[] r : rows) {
            for (int rule = 0; rule <= 2; rule++) {
                x.cue(0, r[0]);
                x.rule(0, rule, 0);
                check.same("cue " + r[0] + " rule " + rule, r[1], x.litAt(0, 0));
            }
        }
        x.beam(50, 20, 0, 1, 1);
        x.cue(0, 120);
        check.same("at its cue, if it is covered then", 120, x.litAt(0, 0));
    }

    private void inItsRowAndColumn() {
        check.topic("In which a beam that lights its row covers its column");
        CreditBeams x = new CreditBeams();
        x.word(3, 4, 20, 0);
        x.beam(0, 20, 0, 3, 255 - 16);
        check.row("all rows but its own", row(-1, -1, -1), Looks.lit(x, 0));
        x.beam(1, 19, 0, 1, 16);
        check.row("left of it", row(-1, -1, -1), Looks.lit(x, 0));
        x.beam(2, 23, 0, 9, 16);
        check.row("right of it", row(-1, -1, -1), Looks.lit(x, 0));
        x.beam(3, 19, 0, 2, 16);
        check.row("its first letter", row(3, -1, -1), Looks.lit(x, 0));
        x.beam(4, 22, 0, 2, 16);
        check.row("its last letter", row(3, -1, 4), Looks.lit(x, 0));
        x.beam(5, 21, 0, 1, 16);
        check.row("all", row(3, 5, 4), Looks.lit(x, 0));
    }

    private void byRule0() {
        check.topic("By the rule 0 it is lit in the first such beat");
        CreditBeams x = new CreditBeams();
        x.word(3, 0, 20, 0);
        flash(x, 30, 20);
        flash(x, 10, 20);
        flash(x, 20, 22);
        check.row("the first of two, and none for the others", row(10, -1, 20), Looks.lit(x, 0));
    }

    private void byRule1() {
        check.topic("By the rule 1 in the first such beat in which the one to its left is lit or was");
        CreditBeams x = new CreditBeams();
        x.word(3, 0, 20, 0);
        x.rule(0, 1, 4);
        x.beam(40, 20, 0, 3, 1);
        check.row("in this beat, too", row(40, 40, 40), Looks.lit(x, 0));
        flash(x, 39, 20);
        check.row("was before", row(39, 40, 40), Looks.lit(x, 0));
        flash(x, 38, 21);
        check.row("a beat too early", row(39, 40, 40), Looks.lit(x, 0));
        flash(x, 39, 21);
        check.row("in the same beat by another beam", row(39, 39, 40), Looks.lit(x, 0));
        x.removeBeam(0);
        check.row("the last one never", row(39, 39, -1), Looks.lit(x, 0));
        x.removeBeam(0);
        check.row("without the first one none", row(-1, -1, -1), Looks.lit(x, 0));
    }

    private void leftmostWaitsForNone() {
        check.topic("The leftmost one waits for none");
        CreditBeams x = new CreditBeams();
        x.word(1, 0, 20, 0);
        x.rule(0, 1, 4);
        flash(x, 9, 20);
        check.row("one letter", row(9), Looks.lit(x, 0));
        CreditBeams y = new CreditBeams();
        y.word(12, 0, 48, 0);
        y.rule(0, 1, 4);
        flash(y, 9, 48);
        check.row("the first of 12", row(9, -1, -1, -1, -1, -1, -1, -1, -1, -1, -1, -1), Looks.lit(y, 0));
        y.beam(9, 49, 0, 9, 1);
        y.beam(5, 58, 0, 2, 1);
        check.row("all the others with it", row(9, 9, 9, 9, 9, 9, 9, 9, 9, 9, 9, 9), Looks.lit(y, 0));
    }

    private void byRule2() {
        check.topic("By the rule 2 all letters are lit at once");
        CreditBeams x = new CreditBeams();
        x.word(12, 0, 48, 0);
        x.rule(0, 2, 4);
        x.beam(0, 48, 0, 9, 1);
        check.same("nine of twelve are none", 0, x.count(3));
        x.beam(100, 57, 0, 2, 1);
        check.same("eleven of twelve are none", 0, x.count(3));
        x.beam(199, 59, 0, 1, 1);
        check.row("twelve are all", row(199, 199, 199, 199, 199, 199, 199, 199, 199, 199, 199, 199),
                Looks.lit(x, 0));
        x.removeBeam(2);
        x.beam(0, 57, 0, 3, 1);
        check.same("all in the first beat", 0, x.litAt(0, 11));
        check.same("the first letter, too", 0, x.litAt(0, 0));
    }

    private void rememberedBeats() {
        check.topic("Or could be in one of the setting 1 beats ahead of that");
        for (int first : row(0, 1, 100, 178)) {
            for (int between = 0; between <= 21; between++) {
                CreditBeams x = new CreditBeams();
                x.word(2, 0, 20, 0);
                x.word(2, 0, 40, 0);
                x.rule(0, 2, 4);
                x.rule(1, 2, 4);
                flash(x, first, 20);
                flash(x, first + between, 21);
                flash(x, first + between, 40);
                flash(x, first, 41);
                for (int remembered = 0; remembered <= 20; remembered++) {
                    x.set(1, remembered);
                    int due = between <= remembered ? first + between : -1;
                    String what = between + " beats between, " + remembered + " remembered";
                    check.row(what, row(due, due), Looks.lit(x, 0));
                    check.row(what + ", from the right", row(due, due), Looks.lit(x, 1));
                }
            }
        }
    }

    private void rememberedFromTheCueOn() {
        check.topic("From the cue on");
        CreditBeams x = new CreditBeams();
        x.word(2, 0, 20, 0);
        x.rule(0, 2, 4);
        x.set(1, 20);
        flash(x, 50, 20);
        flash(x, 60, 21);
        int[][] rows = {{0, 60}, {49, 60}, {50, 60}, {51, -1}, {60, -1}, {61, -1}};
        for (int[] r : rows) {
            x.cue(0, r[0]);
            check.row("cue " + r[0], row(r[1], r[1]), Looks.lit(x, 0));
        }
    }

    private void notAheadOfTime() {
        check.topic("The first beat in which each letter can be lit or could be, not one ahead of it");
        CreditBeams x = new CreditBeams();
        x.word(3, 0, 20, 0);
        x.rule(0, 2, 4);
        x.set(1, 3);
        flash(x, 50, 20);
        flash(x, 53, 21);
        flash(x, 54, 22);
        check.row("forgotten when the third one comes", row(-1, -1, -1), Looks.lit(x, 0));
        flash(x, 51, 20);
        check.row("remembered if it is lit once more", row(54, 54, 54), Looks.lit(x, 0));
        flash(x, 51, 22);
        check.row("the first of two such beats", row(53, 53, 53), Looks.lit(x, 0));
    }

    private void upTo199() {
        check.topic("A letter that is not lit in any beat up to 199 never is");
        for (int rule = 0; rule <= 2; rule++) {
            CreditBeams x = new CreditBeams();
            x.word(1, 0, 20, 0);
            x.rule(0, rule, 4);
            x.beam(190, 10, 1, 1, 1);
            check.same("one beat too late, rule " + rule, -1, x.litAt(0, 0));
            check.row("never", row(1, 0, 20, 0, rule, 4, -1, -1, -1, 0), Looks.word(x, 0));
            check.row("never seen", row(1, 1, 1, 0, 0, -1, 200, 0, 0, 3), Looks.counts(x));
            x.beam(190, 11, 1, 1, 1);
            check.same("in the last beat, rule " + rule, 199, x.litAt(0, 0));
            check.row("lit", row(1, 0, 20, 0, rule, 4, 199, 199, -1, 1), Looks.word(x, 0));
            check.row("seen once", row(1, 2, 1, 1, 1, 199, 199, 0, 0, 4), Looks.counts(x));
        }
    }

    private void wholeFrom() {
        check.topic("A word is whole from the first beat in which all its letters are lit");
        CreditBeams x = new CreditBeams();
        x.word(3, 0, 20, 0);
        flash(x, 30, 20);
        check.same("one of three", -1, x.wordOf(0, 7));
        flash(x, 10, 22);
        check.same("two of three", -1, x.wordOf(0, 7));
        check.row("whole never", row(1, 2, 3, 2, 0, -1, 10, 0, 0, 3), Looks.counts(x));
        flash(x, 20, 21);
        check.same("the last one is the leftmost one", 30, x.wordOf(0, 7));
        check.same("not whole the beat before", 0, x.beat(29, 2));
        check.same("whole", 1, x.beat(30, 2));
        check.same("words that get whole", 1, x.count(4));
        check.same("the last beat", 30, x.count(5));
    }

    private void goesAtABar() {
        check.topic("At the first beginning of a bar not less than that beat and the hold, and more than that beat");
        CreditBeams x = new CreditBeams();
        x.word(1, 0, 20, 20);
        x.beam(0, 20, 0, 1, 1);
        int[][] rows = {
            // The beat from which on it is whole, the hold, and the beat at which it goes, by bars of 4.
            {20, 0, 24}, {20, 1, 24}, {20, 3, 24}, {20, 4, 24}, {20, 5, 28}, {20, 8, 28}, {20, 9, 32},
            {19, 0, 20}, {19, 1, 20}, {19, 2, 24}, {21, 0, 24}, {21, 3, 24}, {21, 4, 28}, {0, 50, 52},
        };
        for (int[] r : rows) {
            x.cue(0, r[0]);
            x.rule(0, 0, r[1]);
            String what = "whole in " + r[0] + ", held for " + r[1];
            check.same(what, r[2], x.wordOf(0, 8));
            check.same(what + ", the beat before", 1, x.beat(r[2] - 1, 2));
            check.same(what + ", the beat it goes", 0, x.beat(r[2], 2));
        }
    }

    private void staysToTheEnd() {
        check.topic("If that is above 199, or it never gets whole, it stays to the end");
        CreditBeams x = new CreditBeams();
        x.word(1, 0, 20, 198);
        x.beam(0, 20, 0, 1, 1);
        x.set(0, 1);
        x.rule(0, 0, 1);
        check.same("gone in the last beat", 199, x.wordOf(0, 8));
        check.row("nothing in the last beat", row(0, 0, 0, 0, 1), Looks.beat(x, 199));
        check.same("seen in one beat", 199, x.count(6));
        x.rule(0, 0, 2);
        check.same("one beat later", -1, x.wordOf(0, 8));
        check.row("there in the last beat", row(1, 1, 1, 0, 1), Looks.beat(x, 199));
        check.same("seen in two beats", 198, x.count(6));
        CreditBeams y = new CreditBeams();
        y.word(2, 0, 20, 0);
        y.beam(0, 20, 0, 1, 1);
        y.rule(0, 0, 0);
        check.same("never whole", -1, y.wordOf(0, 8));
        check.row("there in the last beat", row(1, 1, 0, 0, 1), Looks.beat(y, 199));
        check.same("no beat without it", 0, y.count(6));
    }

    private void seenFromTo() {
        check.topic("A letter is seen if it is lit or was before, and the word has not gone by then");
        CreditBeams x = new CreditBeams();
        x.word(2, 0, 20, 0);
        flash(x, 10, 21);
        flash(x, 13, 20);
        check.same("it goes", 20, x.wordOf(0, 8));
        for (int beat = 0; beat <= 199; beat++) {
            int left = beat >= 13 && beat < 20 ? 1 : 0;
            int right = beat >= 10 && beat < 20 ? 1 : 0;
            check.same("letters in " + beat, left + right, x.beat(beat, 0));
            check.same("words in " + beat, right, x.beat(beat, 1));
            check.same("the left one in " + beat, left - 1, x.seen(beat, 0, 20));
            check.same("the right one in " + beat, right - 1, x.seen(beat, 0, 21));
        }
        check.same("beats without it", 190, x.count(6));
    }

    private void clashInOnePlace() {
        check.topic("Two words clash if some letters of both are seen, in the same row and column");
        CreditBeams x = new CreditBeams();
        x.word(3, 0, 20, 0);
        x.word(3, 0, 23, 0);
        x.word(3, 1, 20, 0);
        x.beam(0, 17, 0, 9, 3);
        check.row("side by side, and one below", row(9, 3, 3, 0, 1), Looks.beat(x, 0));
        x.word(3, 0, 18, 0);
        check.row("over one place of the first one", row(12, 4, 4, 1, 1), Looks.beat(x, 0));
        x.word(1, 1, 22, 0);
        check.row("over another one's end, too", row(13, 5, 5, 2, 1), Looks.beat(x, 0));
        x.word(1, 0, 25, 0);
        check.row("over yet another one's end", row(14, 6, 6, 3, 1), Looks.beat(x, 0));
        check.same("pairs", 3, x.count(8));
        check.same("beats", 4, x.count(7));
        CreditBeams y = new CreditBeams();
        y.word(2, 0, 20, 0);
        y.word(2, 0, 21, 0);
        y.beam(0, 20, 0, 1, 1);
        y.beam(0, 22, 0, 1, 1);
        check.row("both seen, but not where they meet", row(2, 2, 0, 0, 2), Looks.beat(y, 0));
        y.cue(1, 100);
        flash(y, 50, 21);
        check.row("one alone seen where they meet", row(2, 1, 1, 0, 3), Looks.beat(y, 50));
        check.same("pairs", 0, y.count(8));
    }

    private void clashWhileBothAreSeen() {
        check.topic("Two words clash in a beat: from the later one's light to the earlier one's end");
        CreditBeams x = new CreditBeams();
        x.word(1, 0, 20, 0);
        x.word(1, 0, 20, 0);
        x.beam(0, 20, 0, 1, 1);
        x.rule(0, 0, 20);
        int[][] rows = {{0, 4}, {18, 2}, {19, 1}, {20, 0}, {21, 0}, {199, 0}};
        for (int[] r : rows) {
            x.cue(1, r[0]);
            check.same("the second one from " + r[0] + ", beats", r[1], x.count(7));
            check.same("the second one from " + r[0] + ", pairs", r[1] > 0 ? 1 : 0, x.count(8));
            check.same("in 19", r[0] == 18 || r[0] == 19 ? 1 : 0, x.beat(19, 3));
            check.same("in 20", 0, x.beat(20, 3));
        }
        x.cue(0, 199);
        check.same("both in the last beat alone", 1, x.count(7));
        check.same("in the last beat", 1, x.beat(199, 3));
        check.same("in the last but one", 0, x.beat(198, 3));
    }
}
