import java.util.ArrayList;
import java.util.List;

/** The chapters Undo and Exceptions: a test for each of their sentences, and for each method. */
final class UndoEdgeTest {
    private static final Class<IllegalArgumentException> ARGUMENT = IllegalArgumentException.class;
    private static final Class<IllegalStateException> STATE = IllegalStateException.class;
    private static final Class<IndexOutOfBoundsException> INDEX = IndexOutOfBoundsException.class;
    private static final int LEAST = Integer.MIN_VALUE;
    private static final int MOST = Integer.MAX_VALUE;

    /** A call that changes something, or might. */
    private interface Change {
        long on(CreditBeams x);
    }

    private final Checks check;

    private UndoEdgeTest(Checks check) {
        this.check = check;
    }

    static void run(Checks check) {
        UndoEdgeTest test = new UndoEdgeTest(check);
        test.undoableCallsSave();
        test.savedWithoutAChange();
        test.otherCallsSaveNothing();
        test.bufferIsNotSaved();
        test.atMost6States();
        test.oldestIsDropped();
        test.undoIsNotUndone();
        test.backToTheNewObject();
        test.settingsAndOrderComeBack();
        test.refusedCallsChangeNothing();
        test.firstNamedIsThrown();
        test.everyArgumentHasItsEnds();
        test.looksChangeNothing();
    }

    private static int[] row(int... values) {
        return values;
    }

    /** Three words, two beams, other settings, and credits in the buffer. */
    private static CreditBeams scene() {
        CreditBeams x = new CreditBeams();
        x.word(3, 0, 10, 0);
        x.word(3, 0, 12, 0);
        x.word(5, 6, 40, 9);
        x.beam(0, 0, 1, 1, 255);
        x.beam(90, 30, -2, 4, 65);
        x.set(0, 5);
        x.set(1, 6);
        x.rule(1, 2, 7);
        Looks.type(x, "b3,4,-1;w2@0,11,3");
        return x;
    }

    private static List<Change> undoable() {
        List<Change> all = new ArrayList<>();
        all.add(x -> x.word(4, 1, 2, 3));
        all.add(x -> x.rule(0, 1, 9));
        all.add(x -> x.cue(2, 17));
        all.add(x -> x.removeWord(0));
        all.add(x -> x.beam(5, 6, 7, 8, 9));
        all.add(x -> x.turn(1));
        all.add(x -> x.removeBeam(0));
        all.add(x -> x.set(0, 9));
        all.add(x -> x.set(1, 1));
        all.add(CreditBeams::read);
        return all;
    }

    // ---- undo

    private void undoableCallsSave() {
        check.topic("Each method that is marked undoable saves the state from before it");
        List<Change> calls = undoable();
        for (int i = 0; i < calls.size(); i++) {
            CreditBeams x = scene();
            x.undo();
            x.undo();
            CreditBeams twin = scene();
            twin.undo();
            twin.undo();
            int saved = x.count(9);
            calls.get(i).on(x);
            check.same("saved by the call " + i, saved + 1, x.count(9));
            check.same("left after the call " + i, saved, x.undo());
            x.clearBuffer();
            twin.clearBuffer();
            check.isTrue("all back after the call " + i, Looks.all(x).equals(Looks.all(twin)));
        }
    }

    private void savedWithoutAChange() {
        check.topic("Also if it changes nothing");
        List<Change> calls = new ArrayList<>();
        calls.add(x -> x.rule(0, 0, 4));
        calls.add(x -> x.cue(0, 0));
        calls.add(x -> x.turn(0));
        calls.add(x -> x.set(0, 4));
        calls.add(x -> x.set(1, 4));
        for (int i = 0; i < calls.size(); i++) {
            CreditBeams x = new CreditBeams();
            x.word(1, 0, 0, 0);
            x.beam(0, 0, 0, 1, 1);
            calls.get(i).on(x);
            check.same("saved by the call " + i, 3, x.count(9));
            check.same("left", 2, x.undo());
            check.same("the beam is there", 1, x.count(1));
            check.same("left", 1, x.undo());
            check.same("the beam is gone", 0, x.count(1));
        }
        CreditBeams y = new CreditBeams();
        Looks.type(y, "w12@0,59,0");
        check.same("none done", 0, y.read());
        check.same("saved by a reading that does none", 1, y.count(9));
        check.same("left", 0, y.undo());
    }

    private void otherCallsSaveNothing() {
        check.topic("A method that is not marked undoable saves nothing");
        CreditBeams x = new CreditBeams();
        x.word(2, 0, 10, 0);
        x.beam(0, 10, 0, 1, 1);
        x.append('w');
        check.same("append", 2, x.count(9));
        x.firstError();
        check.same("firstError", 2, x.count(9));
        x.clearBuffer();
        check.same("clearBuffer", 2, x.count(9));
        x.wordOf(0, 7);
        x.litAt(0, 1);
        x.beamOf(0, 6);
        x.beat(0, 0);
        x.seen(0, 0, 10);
        x.count(6);
        check.same("looks", 2, x.count(9));
        x.ifBeam(0, 11, 0, 1, 0);
        x.bestSpeed(0, 11);
        x.clearCue(0);
        x.litShare();
        x.digest();
        check.same("what would be", 2, x.count(9));
        check.same("undo", 1, x.undo());
        check.same("saved after undo", 1, x.count(9));
    }

    private void bufferIsNotSaved() {
        check.topic("All but the buffer");
        CreditBeams x = new CreditBeams();
        Looks.type(x, "w1@0");
        x.word(1, 0, 0, 0);
        Looks.type(x, ",0");
        x.undo();
        check.same("what came later stays", 6, x.firstError());
        Looks.type(x, ",0");
        check.same("read", 1, x.read());
        check.same("nothing is left of it", 0, x.firstError());
        check.same("undo", 0, x.undo());
        check.same("the buffer that was read does not come back", 0, x.clearBuffer());
        x.word(1, 0, 0, 0);
        Looks.type(x, "b");
        x.clearBuffer();
        x.undo();
        check.same("nor one that was cleared", 0, x.clearBuffer());
    }

    private void atMost6States() {
        check.topic("At most 6 states are saved");
        CreditBeams x = new CreditBeams();
        x.word(1, 0, 0, 0);
        for (int cue = 1; cue <= 20; cue++) {
            x.cue(0, cue);
            check.same("saved", Math.min(cue + 1, 6), x.count(9));
        }
        for (int left = 5; left >= 0; left--) {
            check.same("left", left, x.undo());
            check.same("the cue", 14 + left, x.wordOf(0, 3));
            check.same("saved", left, x.count(9));
        }
        check.refuses("a seventh undo", x, STATE, x::undo);
        check.same("the cue then", 14, x.wordOf(0, 3));
    }

    private void oldestIsDropped() {
        check.topic("The oldest one is dropped first");
        CreditBeams x = new CreditBeams();
        x.word(1, 0, 0, 100);
        for (int cue = 1; cue <= 5; cue++) {
            x.cue(0, cue);
        }
        check.same("six are saved", 6, x.count(9));
        check.same("one back", 5, x.undo());
        x.cue(0, 50);
        check.same("six again, and none is dropped", 6, x.count(9));
        for (int left = 5; left > 0; left--) {
            x.undo();
            check.same("the cue", left == 1 ? 100 : left - 1, x.wordOf(0, 3));
        }
        check.same("the oldest one", 0, x.undo());
        check.same("without the word", 0, x.count(0));
    }

    private void undoIsNotUndone() {
        check.topic("Restores the latest saved state, and drops it");
        CreditBeams x = new CreditBeams();
        check.refuses("undo of a new object", x, STATE, x::undo);
        x.word(1, 0, 0, 0);
        x.cue(0, 1);
        x.cue(0, 2);
        check.same("left", 2, x.undo());
        check.same("one back", 1, x.wordOf(0, 3));
        check.same("left", 1, x.undo());
        check.same("two back", 0, x.wordOf(0, 3));
        x.cue(0, 9);
        check.same("left", 1, x.undo());
        check.same("one back from another one", 0, x.wordOf(0, 3));
        check.same("left", 0, x.undo());
        check.refuses("undo with none left", x, STATE, x::undo);
    }

    private void backToTheNewObject() {
        check.topic("Restores the latest saved state: that of the new object, too");
        for (int calls = 1; calls <= 6; calls++) {
            CreditBeams x = new CreditBeams();
            for (int call = 0; call < calls; call++) {
                x.word(1, 0, call, 0);
            }
            for (int left = calls - 1; left >= 0; left--) {
                check.same("left", left, x.undo());
            }
            check.isTrue("all as at first", Looks.all(x).equals(Looks.all(new CreditBeams())));
            check.same("the setting 0", 4, x.set(0, 9));
            check.same("the setting 1", 4, x.set(1, 9));
        }
    }

    private void settingsAndOrderComeBack() {
        check.topic("The state from before: settings, and words and beams in their places");
        CreditBeams x = scene();
        CreditBeams twin = scene();
        x.removeWord(1);
        x.removeWord(0);
        x.removeBeam(0);
        x.set(0, 16);
        x.set(1, 0);
        x.turn(0);
        for (int left = 5; left >= 0; left--) {
            check.same("left", left, x.undo());
        }
        for (int word = 0; word < 3; word++) {
            check.row("the word " + word, Looks.word(twin, word), Looks.word(x, word));
        }
        check.row("the first beam", Looks.beam(twin, 0), Looks.beam(x, 0));
        check.row("the second beam", Looks.beam(twin, 1), Looks.beam(x, 1));
        check.same("the setting 0", 5, x.set(0, 1));
        check.same("the setting 1", 6, x.set(1, 1));
    }

    // ---- exceptions

    /** Calls that are refused by the scene when it has 8 words, 6 beams and a full buffer. */
    private static List<Change> refused() {
        List<Change> all = new ArrayList<>();
        all.add(x -> x.word(1, 0, 0, 0));
        all.add(x -> x.word(13, 0, 0, 0));
        all.add(x -> x.rule(8, 0, 0));
        all.add(x -> x.rule(0, 3, 0));
        all.add(x -> x.rule(0, 0, 51));
        all.add(x -> x.cue(8, 0));
        all.add(x -> x.cue(0, 200));
        all.add(x -> x.removeWord(8));
        all.add(x -> x.beam(0, 0, 0, 1, 1));
        all.add(x -> x.beam(0, 0, 0, 1, 0));
        all.add(x -> x.turn(6));
        all.add(x -> x.removeBeam(6));
        all.add(x -> x.set(2, 4));
        all.add(x -> x.set(0, 0));
        all.add(x -> x.set(1, 21));
        all.add(x -> x.append('w'));
        all.add(x -> x.append(127));
        all.add(CreditBeams::read);
        all.add(x -> x.wordOf(8, 0));
        all.add(x -> x.wordOf(0, 10));
        all.add(x -> x.litAt(8, 0));
        all.add(x -> x.litAt(0, 3));
        all.add(x -> x.beamOf(6, 0));
        all.add(x -> x.beamOf(0, 7));
        all.add(x -> x.beat(0, 5));
        all.add(x -> x.seen(0, 0, 60));
        all.add(x -> x.count(10));
        all.add(x -> x.ifBeam(0, 0, 0, 1, 3));
        all.add(x -> x.bestSpeed(0, 60));
        all.add(x -> x.clearCue(8));
        return all;
    }

    private static CreditBeams fullScene() {
        CreditBeams x = scene();
        while (x.count(0) < 8) {
            x.word(1, 3, 30 + x.count(0), 5);
        }
        while (x.count(1) < 6) {
            x.beam(10, 30, 0, 2, 8);
        }
        x.clearBuffer();
        Looks.type(x, "b0,0,0;b0,0,0;b0,0,0;b0,0,0;b0,0,0;w1@0,0,0;w1@0,1,0;b0,0,1;");
        return x;
    }

    private void refusedCallsChangeNothing() {
        check.topic("A call that throws an exception changes nothing, the saved states neither");
        CreditBeams x = fullScene();
        CreditBeams twin = fullScene();
        List<Change> calls = refused();
        for (int i = 0; i < calls.size(); i++) {
            boolean thrown = false;
            try {
                calls.get(i).on(x);
            } catch (RuntimeException e) {
                thrown = true;
            }
            check.isTrue("the call " + i + " is refused", thrown);
            check.isTrue("the call " + i + " changes nothing", Looks.all(x).equals(Looks.all(twin)));
        }
        for (int left = 5; left >= 0; left--) {
            check.same("left", left, x.undo());
            twin.undo();
            check.isTrue("as without them, " + left + " left", Looks.all(x).equals(Looks.all(twin)));
        }
        check.same("the buffer", 60, x.clearBuffer());
    }

    private void firstNamedIsThrown() {
        check.topic("If several exceptions apply, the one that is named first is thrown");
        CreditBeams x = fullScene();
        check.refuses("word", x, ARGUMENT, () -> x.word(0, 0, 0, 0));
        check.refuses("word, but for its last column", x, ARGUMENT, () -> x.word(2, 0, 59, 0));
        check.refuses("word, all being right", x, STATE, () -> x.word(1, 0, 59, 0));
        check.refuses("rule", x, INDEX, () -> x.rule(8, 3, 51));
        check.refuses("rule of no word, all else being right", x, INDEX, () -> x.rule(8, 0, 0));
        check.refuses("cue", x, INDEX, () -> x.cue(8, 200));
        check.refuses("beam", x, ARGUMENT, () -> x.beam(0, 0, 0, 1, 256));
        check.refuses("beam, all being right", x, STATE, () -> x.beam(0, 0, 0, 1, 255));
        check.refuses("set", x, INDEX, () -> x.set(2, 21));
        check.refuses("append", x, ARGUMENT, () -> x.append(32));
        check.refuses("append, all being right", x, STATE, () -> x.append(33));
        check.refuses("wordOf", x, INDEX, () -> x.wordOf(8, 10));
        check.refuses("beamOf", x, INDEX, () -> x.beamOf(6, 7));
    }

    private void everyArgumentHasItsEnds() {
        check.topic("The least and the most number there is, in each argument");
        CreditBeams x = scene();
        for (int far : row(LEAST, LEAST + 1, -1000, 1000, MOST - 1, MOST)) {
            check.refuses("letters", x, ARGUMENT, () -> x.word(far, 0, 0, 0));
            check.refuses("row", x, ARGUMENT, () -> x.word(1, far, 0, 0));
            check.refuses("column", x, ARGUMENT, () -> x.word(1, 0, far, 0));
            check.refuses("column of a long word", x, ARGUMENT, () -> x.word(12, 0, far, 0));
            check.refuses("cue", x, ARGUMENT, () -> x.word(1, 0, 0, far));
            check.refuses("rule's word", x, INDEX, () -> x.rule(far, 0, 0));
            check.refuses("rule", x, ARGUMENT, () -> x.rule(0, far, 0));
            check.refuses("hold", x, ARGUMENT, () -> x.rule(0, 0, far));
            check.refuses("cue's word", x, INDEX, () -> x.cue(far, 0));
            check.refuses("new cue", x, ARGUMENT, () -> x.cue(0, far));
            check.refuses("removeWord", x, INDEX, () -> x.removeWord(far));
            check.refuses("beam's beat", x, ARGUMENT, () -> x.beam(far, 0, 0, 1, 1));
            check.refuses("beam's column", x, ARGUMENT, () -> x.beam(0, far, 0, 1, 1));
            check.refuses("beam's speed", x, ARGUMENT, () -> x.beam(0, 0, far, 1, 1));
            check.refuses("beam's width", x, ARGUMENT, () -> x.beam(0, 0, 0, far, 1));
            check.refuses("beam's rows", x, ARGUMENT, () -> x.beam(0, 0, 0, 1, far));
            check.refuses("turn", x, INDEX, () -> x.turn(far));
            check.refuses("removeBeam", x, INDEX, () -> x.removeBeam(far));
            check.refuses("setting", x, INDEX, () -> x.set(far, 4));
            check.refuses("bars", x, ARGUMENT, () -> x.set(0, far));
            check.refuses("remembered", x, ARGUMENT, () -> x.set(1, far));
            check.refuses("append", x, ARGUMENT, () -> x.append(far));
            farLooks(x, far);
        }
    }

    private void farLooks(CreditBeams x, int far) {
        check.refuses("wordOf's word", x, INDEX, () -> x.wordOf(far, 0));
        check.refuses("wordOf's what", x, ARGUMENT, () -> x.wordOf(0, far));
        check.refuses("litAt's word", x, INDEX, () -> x.litAt(far, 0));
        check.refuses("litAt's letter", x, INDEX, () -> x.litAt(0, far));
        check.refuses("beamOf's beam", x, INDEX, () -> x.beamOf(far, 0));
        check.refuses("beamOf's what", x, ARGUMENT, () -> x.beamOf(0, far));
        check.refuses("beat", x, ARGUMENT, () -> x.beat(far, 0));
        check.refuses("beat's what", x, ARGUMENT, () -> x.beat(0, far));
        check.refuses("seen's beat", x, ARGUMENT, () -> x.seen(far, 0, 0));
        check.refuses("seen's row", x, ARGUMENT, () -> x.seen(0, far, 0));
        check.refuses("seen's column", x, ARGUMENT, () -> x.seen(0, 0, far));
        check.refuses("count", x, ARGUMENT, () -> x.count(far));
        check.refuses("ifBeam's beat", x, ARGUMENT, () -> x.ifBeam(far, 0, 0, 1, 0));
        check.refuses("ifBeam's column", x, ARGUMENT, () -> x.ifBeam(0, far, 0, 1, 0));
        check.refuses("ifBeam's speed", x, ARGUMENT, () -> x.ifBeam(0, 0, far, 1, 0));
        check.refuses("ifBeam's width", x, ARGUMENT, () -> x.ifBeam(0, 0, 0, far, 0));
        check.refuses("ifBeam's what", x, ARGUMENT, () -> x.ifBeam(0, 0, 0, 1, far));
        check.refuses("bestSpeed's beat", x, ARGUMENT, () -> x.bestSpeed(far, 0));
        check.refuses("bestSpeed's column", x, ARGUMENT, () -> x.bestSpeed(0, far));
        check.refuses("clearCue", x, INDEX, () -> x.clearCue(far));
    }

    private void looksChangeNothing() {
        check.topic("Looks, and what would be: nothing is changed");
        CreditBeams x = fullScene();
        CreditBeams twin = fullScene();
        for (int beat = 0; beat < 200; beat += 13) {
            for (int what = 0; what <= 2; what++) {
                x.ifBeam(beat, beat % 60, beat % 19 - 9, beat % 9 + 1, what);
            }
            x.bestSpeed(beat, 59 - beat % 60);
            for (int what = 0; what <= 4; what++) {
                x.beat(beat, what);
            }
            x.seen(beat, beat % 8, beat % 60);
        }
        for (int word = 0; word < 8; word++) {
            x.clearCue(word);
            Looks.word(x, word);
            Looks.lit(x, word);
        }
        for (int beam = 0; beam < 6; beam++) {
            Looks.beam(x, beam);
        }
        Looks.counts(x);
        x.litShare();
        check.same("two digests", x.digest(), x.digest());
        for (int left = 6; left > 0; left--) {
            check.isTrue("all as without them, " + left + " left", Looks.all(x).equals(Looks.all(twin)));
            x.undo();
            twin.undo();
        }
    }
}
