/** Where texts have their first error. */
final class TextTest {
    // A text, and behind a space the index of its first error.
    private static final String[] TEXTS = {
        "x 0", "W 0", "; 0", "1 0", "- 0", "@ 0", ", 0", "w 1", "b 1", "ww 1", "wb 1", "w; 1", "w@ 1", "w, 1",
        "w0 1", "w00 1", "w01 1", "w-1 1", "w1 2", "w9 2", "w10 3", "w11 3", "w12 3", "w13 2", "w19 2",
        "w20 2", "w90 2", "w120 3", "w1, 2", "w1; 2", "w1- 2", "w1w 2", "w1@ 3", "w1@@ 3", "w1@, 3", "w1@- 3",
        "w1@0 4", "w1@7 4", "w1@8 3", "w1@9 3", "w1@00 4", "w1@10 4", "w1@0@ 4", "w1@0; 4", "w1@0, 5",
        "w1@0,, 5", "w1@0,- 5", "w1@0,0 6", "w1@0,00 6", "w1@0,09 6", "w1@0,59 7", "w1@0,60 6", "w1@0,6 6",
        "w1@0,9 6", "w1@0,90 6", "w1@0,590 7", "w1@0,0@ 6", "w1@0,0; 6", "w1@0,0, 7", "w1@0,0,, 7",
        "w1@0,0,- 7", "w1@0,0,; 7", "w1@0,0,0 8", "w1@0,0,00 8", "w1@0,0,199 10", "w1@0,0,200 9",
        "w1@0,0,20 9", "w1@0,0,99 9", "w1@0,0,999 9", "w1@0,0,1990 10", "w1@0,0,0, 8", "w1@0,0,0@ 8",
        "w1@0,0,0; 9", "w1@0,0,0;; 9", "w1@0,0,0;1 9", "w1@0,0,0;w 10", "w1@0,0,0;b 10", "w1@0,0,0b 8",
        "w2@0,59,0 9", "b0 2", "b00 2", "b199 4", "b200 3", "b20 3", "b1990 4", "b-0 1", "b, 1", "b; 1", "b@ 1",
        "b0@ 2", "b0; 2", "b0, 3", "b0,, 3", "b0,-1 3", "b0,59 5", "b0,60 4", "b0,0; 4", "b0,0@ 4",
        "b0,0, 5", "b0,0,, 5", "b0,0,; 5", "b0,0,9 6", "b0,0,10 6", "b0,0,00 6", "b0,0,99 6", "b0,0,- 6",
        "b0,0,-- 6", "b0,0,-; 6", "b0,0,-, 6", "b0,0,-0 7", "b0,0,-9 7", "b0,0,-10 7", "b0,0,-00 7",
        "b0,0,0- 6", "b0,0,-0- 7", "b0,0,0, 6", "b0,0,0,1 6", "b0,0,0@ 6", "b0,0,0;w 8", "b0,0,-0;b 9",
        "b0,0,-1;b0,0,1 14", "b0,0,-1;b0,0,0- 14", "w1@0,0,-1 7", "b0,0,-1;b0,- 11", "b0,0,+1 5",
    };
    private static final String[] SAMPLES = {
        "w12@7,59,199;b199,59,-9;w1@0,0,0", "b0,0,0;w5@3,6,2;b20,15,7", "w7@5,20,100;b1,6,-0;b99,4,3",
    };

    private TextTest() {
    }

    static void run(Checks check) {
        check.topic("texts");
        for (String line : TEXTS) {
            int space = line.indexOf(' ');
            CreditBeams x = new CreditBeams();
            Looks.type(x, line.substring(0, space));
            check.same("first error of " + line.substring(0, space),
                    Integer.parseInt(line.substring(space + 1)), x.firstError());
        }
        for (String sample : SAMPLES) {
            for (int length = 0; length <= sample.length(); length++) {
                everyNext(check, sample.substring(0, length));
            }
        }
        fullBuffer(check);
    }

    /** Compares what the class and the plain model say of a text and each character behind it. */
    private static void everyNext(Checks check, String text) {
        for (int code = 33; code <= 126; code++) {
            CreditBeams x = new CreditBeams();
            PlainModel y = new PlainModel();
            for (int i = 0; i < text.length(); i++) {
                y.append(text.charAt(i));
            }
            Looks.type(x, text);
            x.append(code);
            y.append(code);
            check.same("first error of " + text + (char) code, y.firstError(), x.firstError());
        }
    }

    private static void fullBuffer(Checks check) {
        String text = "b0,0,0;b0,0,0;b0,0,0;b0,0,0;b0,0,0;w1@0,0,0;w1@0,1,0;w10@0,2";
        CreditBeams x = new CreditBeams();
        Looks.type(x, text);
        check.same("length", 60, text.length());
        check.same("no error, though there is no room for the rest", 60, x.firstError());
        x.clearBuffer();
        String whole = "b0,0,0;b0,0,0;b0,0,0;b0,0,0;b0,0,0;w1@0,0,0;w1@0,1,0;b0,0,-1";
        Looks.type(x, whole);
        check.same("length", 60, whole.length());
        check.same("no error", 60, x.firstError());
        check.same("done", 8, x.read());
    }
}
