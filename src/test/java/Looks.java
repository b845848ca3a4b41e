/** All that can be seen of an object without changing it. */
final class Looks {
    private Looks() {
    }

    static String all(CreditBeams x) {
        StringBuilder text = new StringBuilder();
        text.append("digest ").append(x.digest()).append(" error ").append(x.firstError());
        for (int word = 0; word < x.count(0); word++) {
            text.append("\nword");
            for (int what = 0; what <= 9; what++) {
                text.append(' ').append(x.wordOf(word, what));
            }
        }
        for (int beam = 0; beam < x.count(1); beam++) {
            text.append("\nbeam");
            for (int what = 0; what <= 6; what++) {
                text.append(' ').append(x.beamOf(beam, what));
            }
        }
        return text.toString();
    }

    static void type(CreditBeams x, String text) {
        for (int i = 0; i < text.length(); i++) {
            x.append(text.charAt(i));
        }
    }

    /** The properties 0 to 9 of a word. */
    static int[] word(CreditBeams x, int word) {
        int[] row = new int[10];
        for (int what = 0; what <= 9; what++) {
            row[what] = x.wordOf(word, what);
        }
        return row;
    }

    /** The properties 0 to 6 of a beam. */
    static int[] beam(CreditBeams x, int beam) {
        int[] row = new int[7];
        for (int what = 0; what <= 6; what++) {
            row[what] = x.beamOf(beam, what);
        }
        return row;
    }

    /** The beats in which the letters of a word are lit. */
    static int[] lit(CreditBeams x, int word) {
        int[] row = new int[x.wordOf(word, 0)];
        for (int letter = 0; letter < row.length; letter++) {
            row[letter] = x.litAt(word, letter);
        }
        return row;
    }

    /** What beat() tells of a beat. */
    static int[] beat(CreditBeams x, int beat) {
        int[] row = new int[5];
        for (int what = 0; what <= 4; what++) {
            row[what] = x.beat(beat, what);
        }
        return row;
    }

    /** What count() tells. */
    static int[] counts(CreditBeams x) {
        int[] row = new int[10];
        for (int what = 0; what <= 9; what++) {
            row[what] = x.count(what);
        }
        return row;
    }
}
