/** What the project's tests share: answers that are due, and TEXTS fed to the tape. */
final class Due {
    private int asked;
    private int wrong;
    private String about = "";

    /** What the next answers are about. */
    void about(String what) {
        about = what;
    }

    void is(String call, long got, long want) {
        asked++;
        if (got != want) {
            wrong++;
            System.out.println(about + ": " + call + " answered " + got + ", due is " + want);
        }
    }

    void is(String call, boolean got, boolean want) {
        is(call, got ? 1 : 0, want ? 1 : 0);
    }

    /** Tells how it went, and ends the test with 1 if an answer was wrong. */
    void close() {
        System.out.println((asked - wrong) + " of " + asked + " answers are as due");
        if (wrong != 0 || asked == 0) {
            System.exit(1);
        }
    }

    /** Puts bytes on the tape, which was empty. */
    static void load(OwnRain x, String bytes) {
        x.end(0);
        int fed = (bytes.length() + 19) / 20 * 20;
        int[] words = new int[fed / 4];
        for (int i = 0; i < bytes.length(); i++) {
            words[i / 4] |= (bytes.charAt(i) & 255) << 24 - i % 4 * 8;
        }
        for (int i = 0; i < words.length; i += 5) {
            x.feed(words[i], words[i + 1], words[i + 2], words[i + 3], words[i + 4]);
        }
        x.end(bytes.length());
    }

    static int read(OwnRain x, String bytes) {
        load(x, bytes);
        return x.text();
    }

    /** A new object that is ruled by a TEXT, and has been played by it. */
    static OwnRain played(String bytes) {
        OwnRain x = new OwnRain();
        int text = read(x, bytes);
        if (text != 0 || !x.by(0) || x.played(0) != OwnRain.NONE) {
            throw new IllegalStateException("a test's own text fails: " + bytes + " (" + x.fault(0) + " at " + x.fault(1) + ")");
        }
        return x;
    }
}
