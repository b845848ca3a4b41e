import java.util.Arrays;

/** Opening credits: words whose letters wait for light, and beams that sweep over their rows. */
public final class CreditBeams {
    public static final int NONE = -1;

    private static final int BEATS = 200;
    private static final int ROWS = 8;
    private static final int COLUMNS = 60;
    private static final int MAX_WORDS = 8;
    private static final int MAX_LETTERS = 12;
    private static final int MAX_HOLD = 50;
    private static final int MAX_BEAMS = 6;
    private static final int MAX_SPEED = 9;
    private static final int MAX_WIDTH = 9;
    private static final int ALL_ROWS = 255;
    private static final int MAX_BAR = 16;
    private static final int MAX_REMEMBERED = 20;
    private static final int MAX_SAVED = 6;
    private static final int MAX_BUFFER = 60;
    private static final int FIRST_CODE = 33;
    private static final int LAST_CODE = 126;

    private static final int RULE_EACH = 0;
    private static final int RULE_IN_TURN = 1;
    private static final int RULE_TOGETHER = 2;
    private static final int FIRST_HOLD = 4;
    private static final int FIRST_BAR = 4;
    private static final int FIRST_REMEMBERED = 4;
    private static final int PLAIN_WIDTH = 2;

    // What a word and a beam are made of, by the numbers that wordOf and beamOf give to it.
    private static final int LETTERS = 0;
    private static final int ROW = 1;
    private static final int COLUMN = 2;
    private static final int CUE = 3;
    private static final int RULE = 4;
    private static final int HOLD = 5;
    private static final int WORD_CELLS = 6;
    private static final int BEAM_BEAT = 0;
    private static final int BEAM_COLUMN = 1;
    private static final int BEAM_SPEED = 2;
    private static final int BEAM_WIDTH = 3;
    private static final int BEAM_ROWS = 4;
    private static final int BEAM_CELLS = 5;
    private static final int BAR = 0;
    private static final int REMEMBERED = 1;

    private final Credits credits = new Credits();
    private final Show shown = new Show(credits);
    private final Show trial = new Show(credits);
    private final OrderReader reader = new OrderReader();
    // The saved states, one behind the other, the oldest one first.
    private final int[] saved = new int[MAX_SAVED * Credits.CELLS];
    private int savedCount;
    private final int[] buffer = new int[MAX_BUFFER];
    private int bufferLength;

    public CreditBeams() {
        savedCount = 0;
        bufferLength = 0;
    }

    // ---- words

    public int word(int letters, int row, int column, int cue)
            throws IllegalArgumentException, IllegalStateException {
        if (!isWord(letters, row, column, cue)) {
            throw new IllegalArgumentException("no such place, length or cue");
        }
        if (credits.words() >= MAX_WORDS) {
            throw new IllegalStateException("there are 8 words");
        }
        saveState();
        int number = credits.addWord(letters, row, column, cue);
        showAnew();
        return number;
    }

    public int rule(int word, int rule, int hold)
            throws IndexOutOfBoundsException, IllegalArgumentException {
        if (!credits.hasWord(word)) {
            throw new IndexOutOfBoundsException("no such word");
        }
        if (!within(rule, RULE_EACH, RULE_TOGETHER) || !within(hold, 0, MAX_HOLD)) {
            throw new IllegalArgumentException("no such rule or hold");
        }
        saveState();
        int previous = credits.ofWord(word, RULE);
        credits.putWord(word, RULE, rule);
        credits.putWord(word, HOLD, hold);
        showAnew();
        return previous;
    }

    public int cue(int word, int cue) throws IndexOutOfBoundsException, IllegalArgumentException {
        if (!credits.hasWord(word)) {
            throw new IndexOutOfBoundsException("no such word");
        }
        if (!isBeat(cue)) {
            throw new IllegalArgumentException("no such cue");
        }
        saveState();
        int previous = credits.ofWord(word, CUE);
        credits.putWord(word, CUE, cue);
        showAnew();
        return previous;
    }

    public int removeWord(int word) throws IndexOutOfBoundsException {
        if (!credits.hasWord(word)) {
            throw new IndexOutOfBoundsException("no such word");
        }
        saveState();
        credits.dropWord(word);
        showAnew();
        return credits.words();
    }

    // ---- beams

    public int beam(int beat, int column, int speed, int width, int rows)
            throws IllegalArgumentException, IllegalStateException {
        if (!isBeam(beat, column, speed, width) || !within(rows, 1, ALL_ROWS)) {
            throw new IllegalArgumentException("no such beam can be");
        }
        if (credits.beams() >= MAX_BEAMS) {
            throw new IllegalStateException("there are 6 beams");
        }
        saveState();
        int number = credits.addBeam(beat, column, speed, width, rows);
        showAnew();
        return number;
    }

    public int turn(int beam) throws IndexOutOfBoundsException {
        if (!credits.hasBeam(beam)) {
            throw new IndexOutOfBoundsException("no such beam");
        }
        saveState();
        credits.putBeam(beam, BEAM_SPEED, -credits.ofBeam(beam, BEAM_SPEED));
        showAnew();
        return shown.litLetters();
    }

    public int removeBeam(int beam) throws IndexOutOfBoundsException {
        if (!credits.hasBeam(beam)) {
            throw new IndexOutOfBoundsException("no such beam");
        }
        saveState();
        credits.dropBeam(beam);
        showAnew();
        return credits.beams();
    }

    public int set(int setting, int value)
            throws IndexOutOfBoundsException, IllegalArgumentException {
        if (setting != BAR && setting != REMEMBERED) {
            throw new IndexOutOfBoundsException("no such setting");
        }
        if (setting == BAR ? !within(value, 1, MAX_BAR) : !within(value, 0, MAX_REMEMBERED)) {
            throw new IllegalArgumentException("no such value");
        }
        saveState();
        int previous = credits.setting(setting);
        credits.putSetting(setting, value);
        showAnew();
        return previous;
    }

    // ---- texts

    public int append(int code) throws IllegalArgumentException, IllegalStateException {
        if (!within(code, FIRST_CODE, LAST_CODE)) {
            throw new IllegalArgumentException("no such character");
        }
        if (bufferLength < 0 || bufferLength >= buffer.length) {
            throw new IllegalStateException("the buffer is full");
        }
        buffer[bufferLength] = code;
        bufferLength++;
        return bufferLength;
    }

    public int clearBuffer() {
        int length = bufferLength;
        bufferLength = 0;
        return length;
    }

    public int firstError() {
        reader.start();
        for (int i = 0; i < bufferLength; i++) {
            if (reader.feed(codeAt(i)) == OrderReader.ERROR) {
                return i;
            }
        }
        return bufferLength;
    }

    public int read() throws IllegalArgumentException {
        if (!tellsCredits()) {
            throw new IllegalArgumentException("the buffer does not tell credits");
        }
        saveState();
        int done = doOrders();
        bufferLength = 0;
        showAnew();
        return done;
    }

    public int undo() throws IllegalStateException {
        if (savedCount <= 0) {
            throw new IllegalStateException("there is no saved state");
        }
        savedCount--;
        credits.copyFrom(saved, savedCount * Credits.CELLS);
        showAnew();
        return savedCount;
    }

    // ---- looks; nothing is changed

    public int wordOf(int word, int what)
            throws IndexOutOfBoundsException, IllegalArgumentException {
        if (!credits.hasWord(word)) {
            throw new IndexOutOfBoundsException("no such word");
        }
        if (!within(what, 0, 9)) {
            throw new IllegalArgumentException("no such property");
        }
        switch (what) {
            case 6:
                return shown.firstLit(word);
            case 7:
                return shown.wholeFrom(word);
            case 8:
                return shown.goesAt(word);
            case 9:
                return shown.litLettersOf(word);
            default:
                return credits.ofWord(word, what);
        }
    }

    public int litAt(int word, int letter) throws IndexOutOfBoundsException {
        if (!credits.hasWord(word) || letter < 0 || letter >= credits.ofWord(word, LETTERS)) {
            throw new IndexOutOfBoundsException("no such word or letter");
        }
        return shown.litBeat(word, letter);
    }

    public int beamOf(int beam, int what)
            throws IndexOutOfBoundsException, IllegalArgumentException {
        if (!credits.hasBeam(beam)) {
            throw new IndexOutOfBoundsException("no such beam");
        }
        if (!within(what, 0, 6)) {
            throw new IllegalArgumentException("no such property");
        }
        switch (what) {
            case 2:
                return credits.ofBeam(beam, BEAM_SPEED) + MAX_SPEED;
            case 5:
                return coveringBeats(beam);
            case 6:
                trial.shineAllBut(beam);
                trial.settleAll();
                return lettersLost();
            default:
                return credits.ofBeam(beam, what);
        }
    }

    public int beat(int beat, int what) throws IllegalArgumentException {
        if (!isBeat(beat) || !within(what, 0, 4)) {
            throw new IllegalArgumentException("no such beat or number");
        }
        switch (what) {
            case 0:
                return shown.seenLetters(beat);
            case 1:
                return shown.seenWords(beat);
            case 2:
                return shown.standingWords(beat);
            case 3:
                return shown.clashesIn(beat);
            default:
                return coveringBeams(beat);
        }
    }

    public int seen(int beat, int row, int column) throws IllegalArgumentException {
        if (!isBeat(beat) || !within(row, 0, ROWS - 1) || !within(column, 0, COLUMNS - 1)) {
            throw new IllegalArgumentException("no such beat or place");
        }
        for (int word = 0; word < credits.words(); word++) {
            int letter = column - credits.ofWord(word, COLUMN);
            if (credits.ofWord(word, ROW) == row && shown.isSeen(word, letter, beat)) {
                return word;
            }
        }
        return NONE;
    }

    public int count(int what) throws IllegalArgumentException {
        if (!within(what, 0, 9)) {
            throw new IllegalArgumentException("no such number");
        }
        switch (what) {
            case 0:
                return credits.words();
            case 1:
                return credits.beams();
            case 2:
                return credits.letters();
            case 3:
                return shown.litLetters();
            case 4:
                return shown.wholeWords();
            case 5:
                return shown.lastWhole();
            case 6:
                return shown.emptyBeats();
            case 7:
                return shown.clashBeats();
            case 8:
                return shown.clashPairs();
            default:
                return savedCount;
        }
    }

    // ---- what would be; nothing is changed

    public int ifBeam(int beat, int column, int speed, int width, int what)
            throws IllegalArgumentException {
        if (!isBeam(beat, column, speed, width) || !within(what, 0, 2)) {
            throw new IllegalArgumentException("no such beam can be, or no such number");
        }
        tryBeam(beat, column, speed, width);
        switch (what) {
            case 0:
                return trial.wholeWords();
            case 1:
                return trial.litLetters();
            default:
                trial.findClashes();
                return trial.clashBeats();
        }
    }

    public int bestSpeed(int beat, int column) throws IllegalArgumentException {
        if (!isBeat(beat) || !within(column, 0, COLUMNS - 1)) {
            throw new IllegalArgumentException("no such beat or column");
        }
        int best = -MAX_SPEED;
        int mostLit = NONE;
        int mostWhole = NONE;
        for (int speed = -MAX_SPEED; speed <= MAX_SPEED; speed++) {
            tryBeam(beat, column, speed, PLAIN_WIDTH);
            int lit = trial.litLetters();
            int whole = trial.wholeWords();
            if (lit > mostLit || lit == mostLit && whole > mostWhole) {
                best = speed;
                mostLit = lit;
                mostWhole = whole;
            }
        }
        return best + MAX_SPEED;
    }

    public int clearCue(int word) throws IndexOutOfBoundsException {
        if (!credits.hasWord(word)) {
            throw new IndexOutOfBoundsException("no such word");
        }
        trial.takeLight(shown);
        trial.settleAll();
        for (int cue = credits.ofWord(word, CUE); cue < BEATS; cue++) {
            trial.settle(word, cue);
            if (trial.wholeFrom(word) != NONE && !trial.clashesWithAny(word)) {
                return cue;
            }
        }
        return NONE;
    }

    public double litShare() {
        int letters = credits.letters();
        return letters > 0 ? (double) shown.litLetters() / (double) letters : 1.0;
    }

    public long digest() {
        long hash = 2903;
        for (int what = 0; what <= 9; what++) {
            hash = mix(hash, count(what));
        }
        hash = mix(hash, credits.setting(BAR));
        hash = mix(hash, credits.setting(REMEMBERED));
        hash = mixWords(hash);
        hash = mixBeams(hash);
        hash = mixBeats(hash);
        for (int what = 0; what <= 2; what++) {
            hash = mix(hash, ifBeam(5, 0, 1, 3, what));
        }
        hash = mix(hash, bestSpeed(0, 0));
        if (credits.hasWord(0)) {
            hash = mix(hash, clearCue(0));
        }
        hash = mix(hash, shareBits(litShare()));
        return mixBuffer(hash);
    }

    // ---- what the arguments may be

    private static boolean within(int value, int least, int most) {
        return value >= least && value <= most;
    }

    private static boolean isBeat(int beat) {
        return within(beat, 0, BEATS - 1);
    }

    private static boolean isWord(int letters, int row, int column, int cue) {
        return within(letters, 1, MAX_LETTERS)
                && within(row, 0, ROWS - 1)
                && within(column, 0, COLUMNS - letters)
                && isBeat(cue);
    }

    private static boolean isBeam(int beat, int column, int speed, int width) {
        return isBeat(beat)
                && within(column, 0, COLUMNS - 1)
                && within(speed, -MAX_SPEED, MAX_SPEED)
                && within(width, 1, MAX_WIDTH);
    }

    // ---- the state and what is shown of it

    private void saveState() {
        if (savedCount >= MAX_SAVED) {
            savedCount = MAX_SAVED - 1;
            System.arraycopy(saved, Credits.CELLS, saved, 0, savedCount * Credits.CELLS);
        }
        credits.copyTo(saved, savedCount * Credits.CELLS);
        savedCount++;
    }

    private void showAnew() {
        shown.shineAllBut(NONE);
        shown.settleAll();
        shown.findClashes();
    }

    /** Shows on trial what one more beam, in all rows, would bring. */
    private void tryBeam(int beat, int column, int speed, int width) {
        trial.takeLight(shown);
        trial.shine(beat, column, speed, width, ALL_ROWS);
        trial.settleAll();
    }

    /** Letters that are lit at some time as it is, but not on trial. */
    private int lettersLost() {
        int letters = 0;
        for (int word = 0; word < credits.words(); word++) {
            for (int letter = 0; letter < credits.ofWord(word, LETTERS); letter++) {
                if (shown.litBeat(word, letter) != NONE && trial.litBeat(word, letter) == NONE) {
                    letters++;
                }
            }
        }
        return letters;
    }

    private int coveringBeats(int beam) {
        int beats = 0;
        for (int beat = 0; beat < BEATS; beat++) {
            if (credits.coveredBy(beam, beat) != 0) {
                beats++;
            }
        }
        return beats;
    }

    private int coveringBeams(int beat) {
        int beams = 0;
        for (int beam = 0; beam < credits.beams(); beam++) {
            if (credits.coveredBy(beam, beat) != 0) {
                beams++;
            }
        }
        return beams;
    }

    // ---- the buffer

    /** The character at an index; the end of the buffer closes its last order, as ";" would. */
    private int codeAt(int index) {
        return index >= 0 && index < bufferLength && index < buffer.length ? buffer[index] : ';';
    }

    private boolean tellsCredits() {
        // firstError leaves the reader behind the last character.
        return firstError() == bufferLength && reader.feed(';') == OrderReader.ORDER;
    }

    private int doOrders() {
        int done = 0;
        reader.start();
        for (int i = 0; i <= bufferLength; i++) {
            if (reader.feed(codeAt(i)) == OrderReader.ORDER) {
                if (!doOrder()) {
                    return done;
                }
                done++;
            }
        }
        return done;
    }

    /** Does the order that the reader has just read; tells false if it can't be done. */
    private boolean doOrder() {
        int first = reader.number(0);
        int second = reader.number(1);
        int third = reader.number(2);
        int fourth = reader.number(3);
        if (reader.tellsWord()) {
            if (!isWord(first, second, third, fourth) || credits.words() >= MAX_WORDS) {
                return false;
            }
            credits.addWord(first, second, third, fourth);
            return true;
        }
        if (!isBeam(first, second, third, PLAIN_WIDTH) || credits.beams() >= MAX_BEAMS) {
            return false;
        }
        credits.addBeam(first, second, third, PLAIN_WIDTH, ALL_ROWS);
        return true;
    }

    // ---- the digest

    private static long mix(long hash, long value) {
        return 31 * hash + value;
    }

    private long mixWords(long start) {
        long hash = start;
        for (int word = 0; word < credits.words(); word++) {
            for (int what = 0; what <= 9; what++) {
                hash = mix(hash, wordOf(word, what));
            }
            for (int letter = 0; letter < credits.ofWord(word, LETTERS); letter++) {
                hash = mix(hash, litAt(word, letter));
            }
        }
        return hash;
    }

    private long mixBeams(long start) {
        long hash = start;
        for (int beam = 0; beam < credits.beams(); beam++) {
            for (int what = 0; what <= 6; what++) {
                hash = mix(hash, beamOf(beam, what));
            }
        }
        return hash;
    }

    private long mixBeats(long start) {
        long hash = start;
        for (int beat = 0; beat <= 190; beat += 10) {
            for (int what = 0; what <= 4; what++) {
                hash = mix(hash, beat(beat, what));
            }
        }
        return hash;
    }

    private long mixBuffer(long start) {
        long hash = mix(start, bufferLength);
        for (int i = 0; i < bufferLength; i++) {
            hash = mix(hash, codeAt(i));
        }
        return hash;
    }

    /** The bits of a share of 0 to 1, by hand: doubleToLongBits is no library that is allowed. */
    private static long shareBits(double share) {
        if (share <= 0.0) {
            return 0;
        }
        double scaled = share;
        long exponent = 1023;
        for (int i = 0; i < 1000 && scaled < 1.0; i++) {
            scaled = scaled * 2.0;
            exponent--;
        }
        return (exponent << 52) | (long) ((scaled - 1.0) * (double) (1L << 52));
    }

    /** The words, the beams and the settings: all that undo restores, as one row of numbers. */
    private static final class Credits {
        static final int BEAM_START = MAX_WORDS * WORD_CELLS;
        static final int SETTING_START = BEAM_START + MAX_BEAMS * BEAM_CELLS;
        static final int WORD_COUNT = SETTING_START + 2;
        static final int BEAM_COUNT = WORD_COUNT + 1;
        static final int CELLS = BEAM_COUNT + 1;

        private final int[] cells = new int[CELLS];

        Credits() {
            cells[SETTING_START + BAR] = FIRST_BAR;
            cells[SETTING_START + REMEMBERED] = FIRST_REMEMBERED;
        }

        void copyTo(int[] row, int start) {
            if (start >= 0 && start + CELLS <= row.length) {
                System.arraycopy(cells, 0, row, start, CELLS);
            }
        }

        void copyFrom(int[] row, int start) {
            if (start >= 0 && start + CELLS <= row.length) {
                System.arraycopy(row, start, cells, 0, CELLS);
            }
        }

        private void putCell(int index, int value) {
            if (index >= 0 && index < cells.length) {
                cells[index] = value;
            }
        }

        /** Moves what is behind a gap, up to an end, to the gap's start. */
        private void closeGap(int start, int length, int end) {
            if (start >= 0 && length >= 0 && start + length <= end && end <= cells.length) {
                System.arraycopy(cells, start + length, cells, start, end - start - length);
            }
        }

        int words() {
            return cells[WORD_COUNT];
        }

        boolean hasWord(int word) {
            return word >= 0 && word < words();
        }

        int ofWord(int word, int property) {
            int index = word * WORD_CELLS + property;
            return index >= 0 && index < cells.length ? cells[index] : NONE;
        }

        void putWord(int word, int property, int value) {
            putCell(word * WORD_CELLS + property, value);
        }

        int addWord(int letters, int row, int column, int cue) {
            int word = words();
            putWord(word, LETTERS, letters);
            putWord(word, ROW, row);
            putWord(word, COLUMN, column);
            putWord(word, CUE, cue);
            putWord(word, RULE, RULE_EACH);
            putWord(word, HOLD, FIRST_HOLD);
            putCell(WORD_COUNT, word + 1);
            return word;
        }

        void dropWord(int word) {
            closeGap(word * WORD_CELLS, WORD_CELLS, BEAM_START);
            putCell(WORD_COUNT, words() - 1);
        }

        int beams() {
            return cells[BEAM_COUNT];
        }

        boolean hasBeam(int beam) {
            return beam >= 0 && beam < beams();
        }

        int ofBeam(int beam, int property) {
            int index = BEAM_START + beam * BEAM_CELLS + property;
            return index >= 0 && index < cells.length ? cells[index] : NONE;
        }

        void putBeam(int beam, int property, int value) {
            putCell(BEAM_START + beam * BEAM_CELLS + property, value);
        }

        int addBeam(int beat, int column, int speed, int width, int rows) {
            int beam = beams();
            putBeam(beam, BEAM_BEAT, beat);
            putBeam(beam, BEAM_COLUMN, column);
            putBeam(beam, BEAM_SPEED, speed);
            putBeam(beam, BEAM_WIDTH, width);
            putBeam(beam, BEAM_ROWS, rows);
            putCell(BEAM_COUNT, beam + 1);
            return beam;
        }

        void dropBeam(int beam) {
            closeGap(BEAM_START + beam * BEAM_CELLS, BEAM_CELLS, SETTING_START);
            putCell(BEAM_COUNT, beams() - 1);
        }

        int setting(int setting) {
            int index = SETTING_START + setting;
            return index >= 0 && index < cells.length ? cells[index] : NONE;
        }

        void putSetting(int setting, int value) {
            putCell(SETTING_START + setting, value);
        }

        int letters() {
            int letters = 0;
            for (int word = 0; word < words(); word++) {
                letters += ofWord(word, LETTERS);
            }
            return letters;
        }

        /** The columns that a beam covers in a beat, as bits. */
        long coveredBy(int beam, int beat) {
            int age = beat - ofBeam(beam, BEAM_BEAT);
            int column = ofBeam(beam, BEAM_COLUMN) + ofBeam(beam, BEAM_SPEED) * age;
            return age < 0 ? 0 : columnBits(column, ofBeam(beam, BEAM_WIDTH));
        }

        /** The columns from one on, as bits, as far as they are columns. */
        static long columnBits(int column, int width) {
            int from = Math.max(column, 0);
            int end = Math.min(column + width, COLUMNS);
            return from < end ? ((1L << (end - from)) - 1) << from : 0;
        }
    }

    /** What the words show under some beams: when letters are lit, when words are whole and go. */
    private static final class Show {
        private final Credits credits;
        // The columns that are covered, as bits, for each row and beat.
        private final long[] light = new long[ROWS * BEATS];
        private final int[] lit = new int[MAX_WORDS * MAX_LETTERS];
        private final int[] whole = new int[MAX_WORDS];
        // The beats before which the words can be seen: those at which they go, or BEATS.
        private final int[] ends = new int[MAX_WORDS];
        private final int[] clashes = new int[BEATS];
        private int clashPairs;
        // For the word that is being settled: its letters that can be lit, as bits, for each beat,
        // and the latest beat so far in which each of them could be.
        private final int[] reach = new int[BEATS];
        private final int[] latest = new int[MAX_LETTERS];

        Show(Credits credits) {
            this.credits = credits;
        }

        // -- light

        void takeLight(Show other) {
            System.arraycopy(other.light, 0, light, 0, ROWS * BEATS);
        }

        void shineAllBut(int left) {
            Arrays.fill(light, 0L);
            for (int beam = 0; beam < credits.beams(); beam++) {
                if (beam != left) {
                    shine(credits.ofBeam(beam, BEAM_BEAT), credits.ofBeam(beam, BEAM_COLUMN),
                            credits.ofBeam(beam, BEAM_SPEED), credits.ofBeam(beam, BEAM_WIDTH),
                            credits.ofBeam(beam, BEAM_ROWS));
                }
            }
        }

        void shine(int first, int column, int speed, int width, int rows) {
            for (int beat = Math.max(first, 0); beat < BEATS; beat++) {
                long bits = Credits.columnBits(column + speed * (beat - first), width);
                for (int row = 0; row < ROWS && bits != 0; row++) {
                    if ((rows >> row & 1) == 1) {
                        light[row * BEATS + beat] |= bits;
                    }
                }
            }
        }

        private void findReach(int word, int letters, int cue) {
            int row = credits.ofWord(word, ROW) * BEATS;
            int column = credits.ofWord(word, COLUMN);
            int all = allOf(letters);
            for (int beat = 0; beat < BEATS; beat++) {
                int index = row + beat;
                boolean can = beat >= cue && index >= 0 && index < light.length;
                reach[beat] = can ? (int) (light[index] >>> column) & all : 0;
            }
        }

        private static int allOf(int letters) {
            return (1 << letters) - 1;
        }

        // -- letters and words

        void settleAll() {
            for (int word = 0; word < credits.words(); word++) {
                settle(word, credits.ofWord(word, CUE));
            }
        }

        /** Finds what a word shows, with a cue that need not be its own. */
        void settle(int word, int cue) {
            int letters = credits.ofWord(word, LETTERS);
            findReach(word, letters, cue);
            putLit(word, allOf(letters), NONE);
            switch (credits.ofWord(word, RULE)) {
                case RULE_IN_TURN:
                    lightInTurn(word, letters);
                    break;
                case RULE_TOGETHER:
                    lightTogether(word, letters);
                    break;
                default:
                    lightEach(word, letters);
            }
            finish(word, letters);
        }

        private void lightEach(int word, int letters) {
            int dark = allOf(letters);
            for (int beat = 0; beat < BEATS && dark != 0; beat++) {
                int fresh = reach[beat] & dark;
                putLit(word, fresh, beat);
                dark -= fresh;
            }
        }

        private void lightInTurn(int word, int letters) {
            int next = 0;
            for (int beat = 0; beat < BEATS && next < letters; beat++) {
                while (next < letters && (reach[beat] >> next & 1) == 1) {
                    putLit(word, 1 << next, beat);
                    next++;
                }
            }
        }

        private void lightTogether(int word, int letters) {
            int remembered = credits.setting(REMEMBERED);
            Arrays.fill(latest, NONE);
            for (int beat = 0; beat < BEATS; beat++) {
                int oldest = oldestReach(letters, reach[beat], beat);
                if (oldest != NONE && oldest >= beat - remembered) {
                    putLit(word, allOf(letters), beat);
                    return;
                }
            }
        }

        /** Notes which letters can be lit, and tells the earliest of their latest such beats. */
        private int oldestReach(int letters, int reached, int beat) {
            int oldest = beat;
            for (int letter = 0; letter < letters && letter < latest.length; letter++) {
                if ((reached >> letter & 1) == 1) {
                    latest[letter] = beat;
                }
                oldest = latest[letter] < oldest ? latest[letter] : oldest;
            }
            return oldest;
        }

        private void putLit(int word, int bits, int beat) {
            for (int letter = 0; letter < MAX_LETTERS && bits != 0; letter++) {
                int index = word * MAX_LETTERS + letter;
                if ((bits >> letter & 1) == 1 && index >= 0 && index < lit.length) {
                    lit[index] = beat;
                }
            }
        }

        /** Finds from when on a word is whole, and when it goes. */
        private void finish(int word, int letters) {
            if (word < 0 || word >= whole.length || word >= ends.length) {
                return;
            }
            int last = 0;
            for (int letter = 0; letter < letters; letter++) {
                int beat = litBeat(word, letter);
                last = beat == NONE ? BEATS : Math.max(last, beat);
            }
            int stay = Math.max(credits.ofWord(word, HOLD), 1);
            whole[word] = last < BEATS ? last : NONE;
            ends[word] = nextBar(last + stay, credits.setting(BAR));
        }

        /** The first beginning of a bar from a beat on, or BEATS. */
        private static int nextBar(int from, int bar) {
            for (int beat = from; beat < BEATS; beat++) {
                if (bar > 0 && beat % bar == 0) {
                    return beat;
                }
            }
            return BEATS;
        }

        int litBeat(int word, int letter) {
            int index = word * MAX_LETTERS + letter;
            return index >= 0 && index < lit.length ? lit[index] : NONE;
        }

        int wholeFrom(int word) {
            return word >= 0 && word < whole.length ? whole[word] : NONE;
        }

        private int endOf(int word) {
            return word >= 0 && word < ends.length ? ends[word] : BEATS;
        }

        int goesAt(int word) {
            int end = endOf(word);
            return end < BEATS ? end : NONE;
        }

        int firstLit(int word) {
            int first = NONE;
            for (int letter = 0; letter < credits.ofWord(word, LETTERS); letter++) {
                int beat = litBeat(word, letter);
                if (beat != NONE && (first == NONE || beat < first)) {
                    first = beat;
                }
            }
            return first;
        }

        int litLettersOf(int word) {
            int letters = 0;
            for (int letter = 0; letter < credits.ofWord(word, LETTERS); letter++) {
                if (litBeat(word, letter) != NONE) {
                    letters++;
                }
            }
            return letters;
        }

        int litLetters() {
            int letters = 0;
            for (int word = 0; word < credits.words(); word++) {
                letters += litLettersOf(word);
            }
            return letters;
        }

        int wholeWords() {
            int words = 0;
            for (int word = 0; word < credits.words(); word++) {
                if (wholeFrom(word) != NONE) {
                    words++;
                }
            }
            return words;
        }

        int lastWhole() {
            int last = NONE;
            for (int word = 0; word < credits.words(); word++) {
                last = Math.max(last, wholeFrom(word));
            }
            return last;
        }

        // -- what is seen

        boolean isSeen(int word, int letter, int beat) {
            if (letter < 0 || letter >= credits.ofWord(word, LETTERS)) {
                return false;
            }
            return isThere(word, litBeat(word, letter), beat);
        }

        /** What came to a word in a beat, NONE if never, is there from then until the word goes. */
        private boolean isThere(int word, int since, int beat) {
            return since != NONE && since <= beat && beat < endOf(word);
        }

        private int seenLettersOf(int word, int beat) {
            int letters = 0;
            for (int letter = 0; letter < credits.ofWord(word, LETTERS); letter++) {
                if (isSeen(word, letter, beat)) {
                    letters++;
                }
            }
            return letters;
        }

        int seenLetters(int beat) {
            int letters = 0;
            for (int word = 0; word < credits.words(); word++) {
                letters += seenLettersOf(word, beat);
            }
            return letters;
        }

        int seenWords(int beat) {
            int words = 0;
            for (int word = 0; word < credits.words(); word++) {
                if (isThere(word, firstLit(word), beat)) {
                    words++;
                }
            }
            return words;
        }

        /** Words that are whole and have not gone. */
        int standingWords(int beat) {
            int words = 0;
            for (int word = 0; word < credits.words(); word++) {
                if (isThere(word, wholeFrom(word), beat)) {
                    words++;
                }
            }
            return words;
        }

        int emptyBeats() {
            int beats = 0;
            for (int beat = 0; beat < BEATS; beat++) {
                if (seenWords(beat) == 0) {
                    beats++;
                }
            }
            return beats;
        }

        // -- clashes

        void findClashes() {
            Arrays.fill(clashes, 0);
            clashPairs = 0;
            for (int word = 0; word < credits.words(); word++) {
                for (int other = word + 1; other < credits.words(); other++) {
                    noteClash(word, other);
                }
            }
        }

        private void noteClash(int word, int other) {
            int first = firstClash(word, other);
            if (first == NONE) {
                return;
            }
            clashPairs++;
            int end = Math.min(endOf(word), endOf(other));
            for (int beat = Math.max(first, 0); beat < end && beat < clashes.length; beat++) {
                clashes[beat]++;
            }
        }

        /** The first beat in which two words clash; from it on they do until one of them goes. */
        private int firstClash(int word, int other) {
            if (credits.ofWord(word, ROW) != credits.ofWord(other, ROW)) {
                return NONE;
            }
            int shift = credits.ofWord(word, COLUMN) - credits.ofWord(other, COLUMN);
            int end = Math.min(endOf(word), endOf(other));
            int first = end;
            for (int letter = 0; letter < credits.ofWord(word, LETTERS); letter++) {
                int there = letter + shift;
                if (there >= 0 && there < credits.ofWord(other, LETTERS)) {
                    int one = litBeat(word, letter);
                    int two = litBeat(other, there);
                    if (one != NONE && two != NONE) {
                        first = Math.min(first, Math.max(one, two));
                    }
                }
            }
            return first < end ? first : NONE;
        }

        boolean clashesWithAny(int word) {
            for (int other = 0; other < credits.words(); other++) {
                if (other != word && firstClash(word, other) != NONE) {
                    return true;
                }
            }
            return false;
        }

        int clashesIn(int beat) {
            return beat >= 0 && beat < clashes.length ? clashes[beat] : 0;
        }

        int clashBeats() {
            int beats = 0;
            for (int beat = 0; beat < BEATS; beat++) {
                if (clashesIn(beat) > 0) {
                    beats++;
                }
            }
            return beats;
        }

        int clashPairs() {
            return clashPairs;
        }
    }

    /** Reads credits as a text, a character after the other. */
    private static final class OrderReader {
        static final int ERROR = 0;
        static final int MORE = 1;
        static final int ORDER = 2;

        // For each number of an order: the most that it can be, and the character behind it.
        private static final int[] WORD_MOST = {12, 7, 59, 199};
        private static final char[] WORD_ENDS = {'@', ',', ',', ';'};
        private static final int[] BEAM_MOST = {199, 59, 9};
        private static final char[] BEAM_ENDS = {',', ',', ';'};

        private final int[] numbers = new int[4];
        private int kind;
        private boolean inOrder;
        private int place;
        private int value;
        private boolean minus;

        void start() {
            inOrder = false;
        }

        boolean tellsWord() {
            return kind == 'w';
        }

        int number(int index) {
            return index >= 0 && index < numbers.length ? numbers[index] : NONE;
        }

        /** Takes a character: it is an ERROR, ends an ORDER, or there must be MORE of the order. */
        int feed(int code) {
            if (!inOrder) {
                return startOrder(code);
            }
            if (code >= '0' && code <= '9') {
                return takeDigit(code - '0');
            }
            if (code == '-') {
                return takeMinus();
            }
            return value != NONE && code == endCode() ? endNumber() : ERROR;
        }

        private int startOrder(int code) {
            if (code != 'w' && code != 'b') {
                return ERROR;
            }
            kind = code;
            inOrder = true;
            place = 0;
            startNumber();
            return MORE;
        }

        private void startNumber() {
            value = NONE;
            minus = false;
        }

        private int takeDigit(int digit) {
            if (value == 0) {
                return ERROR;
            }
            int longer = value == NONE ? digit : 10 * value + digit;
            if (longer < least() || longer > most()) {
                return ERROR;
            }
            value = longer;
            return MORE;
        }

        private int takeMinus() {
            boolean atSpeed = kind == 'b' && place == BEAM_SPEED;
            if (!atSpeed || minus || value != NONE) {
                return ERROR;
            }
            minus = true;
            return MORE;
        }

        private int endNumber() {
            if (place >= 0 && place < numbers.length) {
                numbers[place] = minus ? -value : value;
            }
            boolean last = endCode() == ';';
            inOrder = !last;
            place++;
            startNumber();
            return last ? ORDER : MORE;
        }

        private int least() {
            return kind == 'w' && place == LETTERS ? 1 : 0;
        }

        private int most() {
            if (kind == 'w') {
                return place >= 0 && place < WORD_MOST.length ? WORD_MOST[place] : NONE;
            }
            return place >= 0 && place < BEAM_MOST.length ? BEAM_MOST[place] : NONE;
        }

        private int endCode() {
            if (kind == 'w') {
                return place >= 0 && place < WORD_ENDS.length ? WORD_ENDS[place] : NONE;
            }
            return place >= 0 && place < BEAM_ENDS.length ? BEAM_ENDS[place] : NONE;
        }
    }
}
