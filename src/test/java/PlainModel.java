import java.util.ArrayList;
import java.util.List;
import java.util.regex.Matcher;
import java.util.regex.Pattern;

/** The document once more, word for word and without any thrift, to compare the class with. */
final class PlainModel {
    private static final int NEVER = -1;
    private static final String UP_TO_59 = "([0-9]|[1-5][0-9])";
    private static final String UP_TO_199 = "([0-9]|[1-9][0-9]|1[0-9][0-9])";
    private static final String ORDER = "(w([1-9]|1[0-2])@[0-7]," + UP_TO_59 + "," + UP_TO_199
            + "|b" + UP_TO_199 + "," + UP_TO_59 + ",-?[0-9])";
    private static final Pattern CREDITS = Pattern.compile(ORDER + "(;" + ORDER + ")*");

    /** A word: letters, row, column, cue, rule, hold. A beam: beat, column, speed, width, rows. */
    private List<int[]> words = new ArrayList<>();
    private List<int[]> beams = new ArrayList<>();
    private int[] settings = {4, 4};
    private final StringBuilder buffer = new StringBuilder();
    private final List<PlainModel> saved = new ArrayList<>();

    private void takeFrom(PlainModel other) {
        words = copy(other.words);
        beams = copy(other.beams);
        settings = other.settings.clone();
    }

    private static List<int[]> copy(List<int[]> rows) {
        List<int[]> copies = new ArrayList<>();
        for (int[] row : rows) {
            copies.add(row.clone());
        }
        return copies;
    }

    private void save() {
        PlainModel state = new PlainModel();
        state.takeFrom(this);
        saved.add(state);
        if (saved.size() > 6) {
            saved.remove(0);
        }
    }

    private static void bound(int value, int least, int most) {
        if (value < least || value > most) {
            throw new IllegalArgumentException();
        }
    }

    private static void index(int value, int size) {
        if (value < 0 || value >= size) {
            throw new IndexOutOfBoundsException();
        }
    }

    // ---- what changes the state

    private void addWord(int letters, int row, int column, int cue) {
        bound(letters, 1, 12);
        bound(row, 0, 7);
        bound(column, 0, 59);
        bound(cue, 0, 199);
        bound(column + letters - 1, 0, 59);
        if (words.size() == 8) {
            throw new IllegalStateException();
        }
        words.add(new int[] {letters, row, column, cue, 0, 4});
    }

    private void addBeam(int beat, int column, int speed, int width, int rows) {
        bound(beat, 0, 199);
        bound(column, 0, 59);
        bound(speed, -9, 9);
        bound(width, 1, 9);
        bound(rows, 1, 255);
        if (beams.size() == 6) {
            throw new IllegalStateException();
        }
        beams.add(new int[] {beat, column, speed, width, rows});
    }

    int word(int letters, int row, int column, int cue) {
        PlainModel before = new PlainModel();
        before.takeFrom(this);
        addWord(letters, row, column, cue);
        saveThat(before);
        return words.size() - 1;
    }

    int beam(int beat, int column, int speed, int width, int rows) {
        PlainModel before = new PlainModel();
        before.takeFrom(this);
        addBeam(beat, column, speed, width, rows);
        saveThat(before);
        return beams.size() - 1;
    }

    private void saveThat(PlainModel before) {
        saved.add(before);
        if (saved.size() > 6) {
            saved.remove(0);
        }
    }

    int rule(int word, int rule, int hold) {
        index(word, words.size());
        bound(rule, 0, 2);
        bound(hold, 0, 50);
        save();
        int previous = words.get(word)[4];
        words.get(word)[4] = rule;
        words.get(word)[5] = hold;
        return previous;
    }

    int cue(int word, int cue) {
        index(word, words.size());
        bound(cue, 0, 199);
        save();
        int previous = words.get(word)[3];
        words.get(word)[3] = cue;
        return previous;
    }

    int removeWord(int word) {
        index(word, words.size());
        save();
        words.remove(word);
        return words.size();
    }

    int turn(int beam) {
        index(beam, beams.size());
        save();
        beams.get(beam)[2] *= -1;
        return litLetters();
    }

    int removeBeam(int beam) {
        index(beam, beams.size());
        save();
        beams.remove(beam);
        return beams.size();
    }

    int set(int setting, int value) {
        index(setting, 2);
        bound(value, setting == 0 ? 1 : 0, setting == 0 ? 16 : 20);
        save();
        int previous = settings[setting];
        settings[setting] = value;
        return previous;
    }

    int append(int code) {
        bound(code, 33, 126);
        if (buffer.length() == 60) {
            throw new IllegalStateException();
        }
        return buffer.append((char) code).length();
    }

    int clearBuffer() {
        int length = buffer.length();
        buffer.setLength(0);
        return length;
    }

    int firstError() {
        for (int length = 1; length <= buffer.length(); length++) {
            Matcher matcher = CREDITS.matcher(buffer.substring(0, length));
            if (!matcher.matches() && !matcher.hitEnd()) {
                return length - 1;
            }
        }
        return buffer.length();
    }

    int read() {
        if (!CREDITS.matcher(buffer).matches()) {
            throw new IllegalArgumentException();
        }
        save();
        int done = 0;
        try {
            for (String order : buffer.toString().split(";")) {
                String[] parts = order.substring(1).split("[@,]");
                int[] n = new int[parts.length];
                for (int i = 0; i < n.length; i++) {
                    n[i] = Integer.parseInt(parts[i]);
                }
                if (order.charAt(0) == 'w') {
                    addWord(n[0], n[1], n[2], n[3]);
                } else {
                    addBeam(n[0], n[1], n[2], 2, 255);
                }
                done++;
            }
        } catch (IllegalArgumentException | IllegalStateException e) {
            // The orders from this one on are left undone.
        }
        buffer.setLength(0);
        return done;
    }

    int undo() {
        if (saved.isEmpty()) {
            throw new IllegalStateException();
        }
        takeFrom(saved.remove(saved.size() - 1));
        return saved.size();
    }

    // ---- light

    private static boolean covers(int[] beam, int beat, int column) {
        int first = beam[1] + beam[2] * (beat - beam[0]);
        return beat >= beam[0] && column >= first && column < first + beam[3];
    }

    private static boolean coversSome(int[] beam, int beat) {
        for (int column = 0; column < 60; column++) {
            if (covers(beam, beat, column)) {
                return true;
            }
        }
        return false;
    }

    private boolean canBeLit(int[] word, int letter, int beat) {
        for (int[] beam : beams) {
            if (beat >= word[3] && (beam[4] & 1 << word[1]) != 0 && covers(beam, beat, word[2] + letter)) {
                return true;
            }
        }
        return false;
    }

    private boolean couldBeLit(int[] word, int letter, int beat) {
        for (int ago = 0; ago <= settings[1]; ago++) {
            if (beat - ago >= 0 && canBeLit(word, letter, beat - ago)) {
                return true;
            }
        }
        return false;
    }

    private int[] litBeats(int[] word) {
        int[] lit = new int[word[0]];
        for (int letter = 0; letter < word[0]; letter++) {
            lit[letter] = NEVER;
            for (int beat = 199; beat >= 0; beat--) {
                boolean now = canBeLit(word, letter, beat);
                if (word[4] == 1) {
                    boolean left = letter == 0 || lit[letter - 1] != NEVER && lit[letter - 1] <= beat;
                    now = now && left;
                } else if (word[4] == 2) {
                    now = true;
                    for (int each = 0; each < word[0] && now; each++) {
                        now = couldBeLit(word, each, beat);
                    }
                }
                lit[letter] = now ? beat : lit[letter];
            }
        }
        return lit;
    }

    private static int wholeFrom(int[] lit) {
        int last = 0;
        for (int beat : lit) {
            if (beat == NEVER) {
                return NEVER;
            }
            last = Math.max(last, beat);
        }
        return last;
    }

    private int goesAt(int[] word, int[] lit) {
        int whole = wholeFrom(lit);
        for (int bar = 0; bar <= 199 && whole != NEVER; bar += settings[0]) {
            if (bar >= whole + word[5] && bar > whole) {
                return bar;
            }
        }
        return NEVER;
    }

    /** For each word: what it shows; then nothing but these rows is needed. */
    private List<Shown> shown() {
        List<Shown> all = new ArrayList<>();
        for (int[] word : words) {
            all.add(shown(word));
        }
        return all;
    }

    private Shown shown(int[] word) {
        Shown shown = new Shown();
        shown.word = word;
        shown.lit = litBeats(word);
        shown.whole = wholeFrom(shown.lit);
        shown.goes = goesAt(word, shown.lit);
        return shown;
    }

    private static final class Shown {
        private int[] word;
        private int[] lit;
        private int whole;
        private int goes;

        boolean seen(int letter, int beat) {
            return lit[letter] != NEVER && lit[letter] <= beat && (goes == NEVER || beat < goes);
        }

        boolean seenAt(int beat, int row, int column) {
            int letter = column - word[2];
            return row == word[1] && letter >= 0 && letter < word[0] && seen(letter, beat);
        }

        int seenLetters(int beat) {
            int letters = 0;
            for (int letter = 0; letter < word[0]; letter++) {
                letters += seen(letter, beat) ? 1 : 0;
            }
            return letters;
        }

        int litLetters() {
            int letters = 0;
            for (int beat : lit) {
                letters += beat != NEVER ? 1 : 0;
            }
            return letters;
        }

        boolean clashes(Shown other, int beat) {
            for (int column = 0; column < 60 && word[1] == other.word[1]; column++) {
                if (seenAt(beat, word[1], column) && other.seenAt(beat, word[1], column)) {
                    return true;
                }
            }
            return false;
        }

        boolean clashesEver(Shown other) {
            for (int beat = 0; beat < 200; beat++) {
                if (clashes(other, beat)) {
                    return true;
                }
            }
            return false;
        }
    }

    // ---- looks

    int litLetters() {
        int letters = 0;
        for (Shown each : shown()) {
            letters += each.litLetters();
        }
        return letters;
    }

    int wordOf(int word, int what) {
        index(word, words.size());
        bound(what, 0, 9);
        if (what < 6) {
            return words.get(word)[what];
        }
        Shown shown = shown(words.get(word));
        if (what == 6) {
            int first = NEVER;
            for (int beat : shown.lit) {
                first = beat != NEVER && (first == NEVER || beat < first) ? beat : first;
            }
            return first;
        }
        return what == 7 ? shown.whole : what == 8 ? shown.goes : shown.litLetters();
    }

    int litAt(int word, int letter) {
        index(word, words.size());
        index(letter, words.get(word)[0]);
        return litBeats(words.get(word))[letter];
    }

    int beamOf(int beam, int what) {
        index(beam, beams.size());
        bound(what, 0, 6);
        if (what < 5) {
            return beams.get(beam)[what] + (what == 2 ? 9 : 0);
        }
        if (what == 5) {
            int beats = 0;
            for (int beat = 0; beat < 200; beat++) {
                beats += coversSome(beams.get(beam), beat) ? 1 : 0;
            }
            return beats;
        }
        PlainModel without = new PlainModel();
        without.takeFrom(this);
        without.beams.remove(beam);
        int letters = 0;
        for (int word = 0; word < words.size(); word++) {
            int[] with = litBeats(words.get(word));
            int[] then = without.litBeats(words.get(word));
            for (int letter = 0; letter < with.length; letter++) {
                letters += with[letter] != NEVER && then[letter] == NEVER ? 1 : 0;
            }
        }
        return letters;
    }

    private static int clashesIn(List<Shown> shown, int beat) {
        int pairs = 0;
        for (int a = 0; a < shown.size(); a++) {
            for (int b = a + 1; b < shown.size(); b++) {
                pairs += shown.get(a).clashes(shown.get(b), beat) ? 1 : 0;
            }
        }
        return pairs;
    }

    int beat(int beat, int what) {
        bound(beat, 0, 199);
        bound(what, 0, 4);
        List<Shown> shown = shown();
        int number = 0;
        for (Shown each : shown) {
            int letters = each.seenLetters(beat);
            boolean stands = each.whole != NEVER && each.whole <= beat
                    && (each.goes == NEVER || each.goes > beat);
            number += what == 0 ? letters : 0;
            number += what == 1 && letters > 0 ? 1 : 0;
            number += what == 2 && stands ? 1 : 0;
        }
        if (what == 4) {
            for (int[] beam : beams) {
                number += coversSome(beam, beat) ? 1 : 0;
            }
        }
        return what == 3 ? clashesIn(shown, beat) : number;
    }

    int seen(int beat, int row, int column) {
        bound(beat, 0, 199);
        bound(row, 0, 7);
        bound(column, 0, 59);
        List<Shown> shown = shown();
        for (int word = 0; word < shown.size(); word++) {
            if (shown.get(word).seenAt(beat, row, column)) {
                return word;
            }
        }
        return NEVER;
    }

    int count(int what) {
        bound(what, 0, 9);
        List<Shown> shown = shown();
        int letters = 0;
        int whole = 0;
        int lastWhole = NEVER;
        for (Shown each : shown) {
            letters += each.word[0];
            whole += each.whole != NEVER ? 1 : 0;
            lastWhole = Math.max(lastWhole, each.whole);
        }
        switch (what) {
            case 0: return words.size();
            case 1: return beams.size();
            case 2: return letters;
            case 3: return litLetters();
            case 4: return whole;
            case 5: return lastWhole;
            case 6: return emptyBeats(shown);
            case 7: return clashBeats(shown);
            case 8: return clashPairs(shown);
            default: return saved.size();
        }
    }

    private static int emptyBeats(List<Shown> shown) {
        int beats = 0;
        for (int beat = 0; beat < 200; beat++) {
            int letters = 0;
            for (Shown each : shown) {
                letters += each.seenLetters(beat);
            }
            beats += letters == 0 ? 1 : 0;
        }
        return beats;
    }

    private static int clashBeats(List<Shown> shown) {
        int beats = 0;
        for (int beat = 0; beat < 200; beat++) {
            beats += clashesIn(shown, beat) > 0 ? 1 : 0;
        }
        return beats;
    }

    private static int clashPairs(List<Shown> shown) {
        int pairs = 0;
        for (int a = 0; a < shown.size(); a++) {
            for (int b = a + 1; b < shown.size(); b++) {
                pairs += shown.get(a).clashesEver(shown.get(b)) ? 1 : 0;
            }
        }
        return pairs;
    }

    // ---- what would be

    private PlainModel with(int beat, int column, int speed, int width) {
        PlainModel with = new PlainModel();
        with.takeFrom(this);
        with.beams.add(new int[] {beat, column, speed, width, 255});
        return with;
    }

    int ifBeam(int beat, int column, int speed, int width, int what) {
        bound(beat, 0, 199);
        bound(column, 0, 59);
        bound(speed, -9, 9);
        bound(width, 1, 9);
        bound(what, 0, 2);
        return with(beat, column, speed, width).count(what == 0 ? 4 : what == 1 ? 3 : 7);
    }

    int bestSpeed(int beat, int column) {
        bound(beat, 0, 199);
        bound(column, 0, 59);
        int best = 0;
        int most = -1;
        for (int speed = -9; speed <= 9; speed++) {
            PlainModel with = with(beat, column, speed, 2);
            int letters = 0;
            int whole = 0;
            for (Shown each : with.shown()) {
                letters += each.litLetters();
                whole += each.whole != NEVER ? 1 : 0;
            }
            int worth = 100 * letters + whole;
            if (worth > most) {
                most = worth;
                best = speed + 9;
            }
        }
        return best;
    }

    int clearCue(int word) {
        index(word, words.size());
        List<Shown> shown = shown();
        for (int cue = words.get(word)[3]; cue <= 199; cue++) {
            int[] later = words.get(word).clone();
            later[3] = cue;
            Shown then = shown(later);
            boolean clear = then.whole != NEVER;
            for (int other = 0; other < shown.size() && clear; other++) {
                clear = other == word || !then.clashesEver(shown.get(other));
            }
            if (clear) {
                return cue;
            }
        }
        return NEVER;
    }

    double litShare() {
        int letters = count(2);
        return letters == 0 ? 1.0 : (double) count(3) / letters;
    }

    long digest() {
        List<Long> values = new ArrayList<>();
        for (int what = 0; what <= 9; what++) {
            values.add((long) count(what));
        }
        values.add((long) settings[0]);
        values.add((long) settings[1]);
        for (int word = 0; word < words.size(); word++) {
            for (int what = 0; what <= 9; what++) {
                values.add((long) wordOf(word, what));
            }
            for (int beat : litBeats(words.get(word))) {
                values.add((long) beat);
            }
        }
        for (int beam = 0; beam < beams.size(); beam++) {
            for (int what = 0; what <= 6; what++) {
                values.add((long) beamOf(beam, what));
            }
        }
        for (int beat = 0; beat <= 190; beat += 10) {
            for (int what = 0; what <= 4; what++) {
                values.add((long) beat(beat, what));
            }
        }
        for (int what = 0; what <= 2; what++) {
            values.add((long) ifBeam(5, 0, 1, 3, what));
        }
        values.add((long) bestSpeed(0, 0));
        if (!words.isEmpty()) {
            values.add((long) clearCue(0));
        }
        values.add(Double.doubleToLongBits(litShare()));
        values.add((long) buffer.length());
        for (int i = 0; i < buffer.length(); i++) {
            values.add((long) buffer.charAt(i));
        }
        long hash = 2903;
        for (long value : values) {
            hash = 31 * hash + value;
        }
        return hash;
    }
}
