/** The chapter Input text and the promises 10 to 13: a test for each sentence that names a boundary. */
final class TextEdgeTest {
    private static final Class<IllegalArgumentException> ARGUMENT = IllegalArgumentException.class;
    private static final Class<IllegalStateException> STATE = IllegalStateException.class;
    // Orders of 7, 9 and 60 characters.
    private static final String SEVEN = "b0,0,0;";
    private static final String NINE = "w1@0,0,0;";
    private static final String SIXTY = SEVEN.repeat(5) + NINE.repeat(2) + "b9,9,-9";

    private final Checks check;

    private TextEdgeTest(Checks check) {
        this.check = check;
    }

    static void run(Checks check) {
        TextEdgeTest test = new TextEdgeTest(check);
        test.atMost60Characters();
        test.codesFrom33To126();
        test.clearTellsTheLength();
        test.oneOrMoreOrders();
        test.numbersOfAWord();
        test.numbersOfABeam();
        test.noLeadingZeros();
        test.perhapsAMinus();
        test.ofAnyLength();
        test.firstErrorOfAll();
        test.lengthIfThereIsNone();
        test.whatAnOrderMakes();
        test.upToTheFirstThatCanNotBeDone();
        test.readAsOneCall();
        test.readRefused();
    }

    private static CreditBeams with(String text) {
        CreditBeams x = new CreditBeams();
        Looks.type(x, text);
        return x;
    }

    private void error(int want, String text) {
        check.same("first error of " + text, want, with(text).firstError());
    }

    private void complete(String text) {
        CreditBeams x = with(text);
        check.same("first error of " + text, text.length(), x.firstError());
        boolean read = true;
        try {
            x.read();
        } catch (IllegalArgumentException e) {
            read = false;
        }
        check.isTrue(text + " is read", read);
    }

    private void incomplete(String text) {
        error(text.length(), text);
        CreditBeams x = with(text);
        check.refuses("reading " + text, x, ARGUMENT, x::read);
    }

    // ---- the buffer

    private void atMost60Characters() {
        check.topic("The buffer has at most 60 characters");
        CreditBeams x = new CreditBeams();
        for (int length = 1; length <= 60; length++) {
            check.same("the new length", length, x.append('b'));
        }
        check.refuses("a 61st one", x, STATE, () -> x.append('b'));
        check.refuses("a wrong 61st one", x, ARGUMENT, () -> x.append(127));
        check.same("full", 60, x.clearBuffer());
        check.same("room anew", 1, x.append('b'));
        CreditBeams y = with(SIXTY);
        check.same("length", 60, SIXTY.length());
        check.same("no error in a full one", 60, y.firstError());
        check.refuses("full", y, STATE, () -> y.append(';'));
        check.same("all of it is read", 8, y.read());
        check.row("the last order, too", new int[] {9, 9, 0, 2, 255, 2, 0}, Looks.beam(y, 5));
        check.same("room after reading", 1, y.append('b'));
    }

    private void codesFrom33To126() {
        check.topic("append: the character code, 33 to 126");
        for (int code = -1; code <= 300; code++) {
            CreditBeams x = new CreditBeams();
            int which = code;
            if (code >= 33 && code <= 126) {
                check.same("the length with " + code, 1, x.append(code));
                check.same("an order's beginning " + code, code == 'w' || code == 'b' ? 1 : 0, x.firstError());
            } else {
                check.refuses("append " + code, x, ARGUMENT, () -> x.append(which));
            }
        }
        for (int code : new int[] {'w' + 256, 'w' + 65536, 'w' - 256, Integer.MIN_VALUE + 'w'}) {
            CreditBeams x = new CreditBeams();
            check.refuses("append " + code, x, ARGUMENT, () -> x.append(code));
        }
    }

    private void clearTellsTheLength() {
        check.topic("clearBuffer returns the length that it had");
        for (int length = 0; length <= 60; length++) {
            CreditBeams x = with("w".repeat(length));
            check.same("length", length, x.clearBuffer());
            check.same("length then", 0, x.clearBuffer());
            check.same("no error then", 0, x.firstError());
        }
    }

    // ---- the texts

    private void oneOrMoreOrders() {
        check.topic("One or more orders with ; between them");
        incomplete("");
        complete("w1@0,0,0");
        complete("b0,0,0");
        incomplete("w1@0,0,0;");
        incomplete("b0,0,0;");
        complete("w1@0,0,0;b0,0,0");
        complete("b0,0,0;w1@0,0,0");
        incomplete("b0,0,0;w1@0,0,0;");
        error(0, ";b0,0,0");
        error(7, "b0,0,0;;b0,0,0");
        error(6, "b0,0,0b0,0,0");
        error(6, "b0,0,0,b0,0,0");
        error(8, "w1@0,0,0w1@0,0,0");
    }

    private void numbersOfAWord() {
        check.topic("w, letters, 1 to 12, @, a row, 0 to 7, a first column, 0 to 59, a cue, 0 to 199");
        for (int letters = 0; letters <= 130; letters++) {
            number("w", letters, 1, 12, "@0,0,0");
        }
        for (int row = 0; row <= 80; row++) {
            number("w1@", row, 0, 7, ",0,0");
        }
        for (int column = 0; column <= 600; column++) {
            number("w1@0,", column, 0, 59, ",0");
        }
        for (int cue = 0; cue <= 2000; cue++) {
            number("w1@0,0,", cue, 0, 199, "");
        }
        complete("w12@7,59,199");
    }

    private void numbersOfABeam() {
        check.topic("b, a first beat, 0 to 199, a first column, 0 to 59, perhaps -, and a speed, 0 to 9");
        for (int beat = 0; beat <= 2000; beat++) {
            number("b", beat, 0, 199, ",0,0");
        }
        for (int column = 0; column <= 600; column++) {
            number("b0,", column, 0, 59, ",0");
        }
        for (int speed = 0; speed <= 100; speed++) {
            number("b0,0,", speed, 0, 9, "");
            number("b0,0,-", speed, 0, 9, "");
        }
        complete("b199,59,-9");
    }

    /** A number with a text around it: the first digit that makes it too much is the error. */
    private void number(String before, int value, int least, int most, String behind) {
        String digits = Integer.toString(value);
        String text = before + digits + behind;
        int good = 0;
        while (good < digits.length() && fits(digits.substring(0, good + 1), least, most)) {
            good++;
        }
        if (good == digits.length()) {
            complete(text);
        } else {
            error(before.length() + good, text);
        }
    }

    private static boolean fits(String digits, int least, int most) {
        int value = Integer.parseInt(digits);
        return value >= least && value <= most;
    }

    private void noLeadingZeros() {
        check.topic("Numbers are without leading zeros");
        error(1, "w01@0,0,0");
        error(4, "w1@00,0,0");
        error(6, "w1@0,00,0");
        error(6, "w1@0,05,0");
        error(8, "w1@0,0,00");
        error(8, "w1@0,0,07");
        error(2, "b00,0,0");
        error(2, "b01,0,0");
        error(4, "b0,00,0");
        error(4, "b0,09,0");
        error(6, "b0,0,00");
        error(6, "b0,0,01");
        error(7, "b0,0,-00");
        error(7, "b0,0,-01");
        complete("w10@0,20,100");
        complete("b100,50,0");
    }

    private void perhapsAMinus() {
        check.topic("Perhaps -, and a speed");
        complete("b0,0,-1");
        complete("b0,0,-0");
        incomplete("b0,0,-");
        error(6, "b0,0,--1");
        error(6, "b0,0,-;");
        error(6, "b0,0,1-");
        error(1, "b-1,0,0");
        error(3, "b0,-1,0");
        error(1, "w-1@0,0,0");
        error(3, "w1@-1,0,0");
        error(5, "w1@0,-1,0");
        error(7, "w1@0,0,-1");
        error(5, "b0,0,+1");
        check.same("the order behind it has none", 2, readAll("b0,30,-3;b0,30,3").count(1));
        check.row("speeds", new int[] {6, 12},
                readAll("b0,30,-3;b0,30,3").beamOf(0, 2), readAll("b0,30,-3;b0,30,3").beamOf(1, 2));
    }

    private static CreditBeams readAll(String text) {
        CreditBeams x = with(text);
        x.read();
        return x;
    }

    private void ofAnyLength() {
        check.topic("If no credits as a text, of any length, begin with these characters");
        String start = SEVEN.repeat(5) + NINE.repeat(2);
        for (String end : new String[] {"w", "w1", "w1@0,0,", "w1@0,0", "b10,10,", "b1,10,-", SEVEN}) {
            incomplete(start + end);
        }
        String full = start + "w1@0,0,";
        check.same("length", 60, full.length());
        error(60, full);
        error(59, start + "w1@0,0@");
        error(60, SEVEN.repeat(8) + "b0,0");
        error(59, SEVEN.repeat(8) + "b0,;");
        complete(SEVEN.repeat(7) + "b0,0,0");
        check.same("more than 6 beams are no error", 6, readAll(SEVEN.repeat(7) + "b0,0,0").count(1));
    }

    private void firstErrorOfAll() {
        check.topic("The index of the first character that is a syntax error");
        error(0, "x");
        error(0, "xx");
        error(0, "x".repeat(60));
        error(1, "bb".repeat(30));
        error(59, SIXTY.substring(0, 59) + "x");
        error(59, SIXTY.substring(0, 59) + ";");
        error(7, SEVEN + "x" + "w1@0,0,0");
        CreditBeams x = with("b0,x");
        check.same("an error", 3, x.firstError());
        check.same("found again", 3, x.firstError());
        Looks.type(x, "0");
        check.same("more behind it", 3, x.firstError());
        x.clearBuffer();
        check.same("cleared", 0, x.firstError());
        Looks.type(x, "b0,0");
        check.same("none anew", 4, x.firstError());
    }

    private void lengthIfThereIsNone() {
        check.topic("The length of the buffer if there is none");
        String text = "w12@7,48,199;b199,59,-9;w1@0,0,0;b0,0,9;b10,20,0;b7,8,-1;b5,";
        for (int length = 0; length <= 60; length++) {
            error(length, text.substring(0, length));
        }
    }

    // ---- reading

    private void whatAnOrderMakes() {
        check.topic("A word with the rule 0 and the hold 4; a beam with the width 2 that lights all rows");
        CreditBeams x = readAll("w1@0,0,0;w12@7,48,199;b0,0,-9;b199,59,9");
        check.row("the least word", new int[] {1, 0, 0, 0, 0, 4, 0, 0, 4, 1}, Looks.word(x, 0));
        check.row("the most word", new int[] {12, 7, 48, 199, 0, 4, 199, -1, -1, 1}, Looks.word(x, 1));
        check.row("the least beam", new int[] {0, 0, 0, 2, 255, 1, 1}, Looks.beam(x, 0));
        check.row("the most beam", new int[] {199, 59, 18, 2, 255, 1, 1}, Looks.beam(x, 1));
        CreditBeams y = new CreditBeams();
        y.set(0, 7);
        y.word(2, 1, 5, 6);
        y.rule(0, 2, 30);
        Looks.type(y, "w2@1,6,6;b6,5,0");
        check.same("besides what is there", 2, y.read());
        check.row("the word", new int[] {2, 1, 6, 6, 0, 4, 6, -1, -1, 1}, Looks.word(y, 1));
        check.row("the word before", new int[] {2, 1, 5, 6, 2, 30, 6, 6, 42, 2}, Looks.word(y, 0));
        check.same("they clash", 1, y.count(8));
    }

    private void upToTheFirstThatCanNotBeDone() {
        check.topic("Up to the first one for which the method would throw an exception");
        String[] texts = {
            // What can't be done is the first, the second, the last order, or none.
            "w2@0,59,0;w1@0,0,0;b0,0,0 0", "w1@0,0,0;w12@0,49,0;b0,0,0 1", "w1@0,0,0;b0,0,0;w3@0,58,0 2",
            "w2@0,58,0;w12@0,48,0;w3@0,57,0 3",
        };
        for (String line : texts) {
            int space = line.indexOf(' ');
            CreditBeams x = with(line.substring(0, space));
            int done = Integer.parseInt(line.substring(space + 1));
            check.same("done of " + line, done, x.read());
            check.same("there of " + line, done, x.count(0) + x.count(1));
            check.same("the buffer is clear after " + line, 0, x.clearBuffer());
        }
        for (int beams = 0; beams <= 6; beams++) {
            CreditBeams x = new CreditBeams();
            for (int i = 0; i < beams; i++) {
                x.beam(0, 0, 0, 1, 1);
            }
            Looks.type(x, SEVEN.repeat(7) + "w1@0,0,0");
            check.same("done besides " + beams + " beams", 6 - beams, x.read());
            check.row("there", new int[] {0, 6}, x.count(0), x.count(1));
        }
        for (int words = 3; words <= 8; words++) {
            CreditBeams x = new CreditBeams();
            for (int i = 0; i < words; i++) {
                x.word(1, 0, 0, 0);
            }
            Looks.type(x, NINE.repeat(5) + "w1@0,0,0;b1,1");
            Looks.type(x, ",1");
            check.same("done besides " + words + " words", 8 - words, x.read());
            check.row("there", new int[] {8, 0}, x.count(0), x.count(1));
        }
        CreditBeams last = new CreditBeams();
        for (int i = 0; i < 7; i++) {
            last.word(1, 0, 0, 0);
        }
        Looks.type(last, "w1@0,0,0;b0,0,0");
        check.same("the eighth word, and a beam behind it", 2, last.read());
    }

    private void readAsOneCall() {
        check.topic("Undoable, as one call, also if none is done");
        CreditBeams x = new CreditBeams();
        x.word(1, 0, 0, 0);
        Looks.type(x, "w1@0,0,0;w1@0,1,0;b0,0,0;b1,1,1;w2@0,59,0");
        check.same("done", 4, x.read());
        check.same("saved", 2, x.count(9));
        check.same("left", 1, x.undo());
        check.row("all of them back", new int[] {1, 0}, x.count(0), x.count(1));
        Looks.type(x, "w2@0,59,0;w1@0,0,0");
        check.same("none done", 0, x.read());
        check.same("saved", 2, x.count(9));
        check.same("left", 1, x.undo());
        check.same("the word is there", 1, x.count(0));
    }

    private void readRefused() {
        check.topic("Throws if the buffer does not tell credits as a text");
        for (String text : new String[] {"", "w", "b", ";", "w1@0,0,0;", "b0,0,-", "b0,0,", "b0,0", "w1@0,0,",
            "w0@0,0,0", "b0,0,10", "b200,0,0", "w13@0,0,0", "w1@8,0,0", "w1@0,60,0", "w1@0,0,200", "b0,60,0",
            "b0,0,0;x", "xb0,0,0", "b0,0,0;w1"}) {
            CreditBeams x = with(text);
            check.refuses("reading " + text, x, ARGUMENT, x::read);
            check.same("nothing saved", 0, x.count(9));
            check.same("the buffer stays", text.length(), x.clearBuffer());
        }
    }
}
