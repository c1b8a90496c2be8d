/**
 * All that can be told of an object, also what only comes out by using it up: what its STEPS are taken
 * back to, what its TEXTS and the tape say, and what the IMAGE has. Two objects that tell the same here
 * are alike.
 */
final class Whole {
    private final OwnRain x;
    private final StringBuilder told = new StringBuilder();

    private Whole(OwnRain x) {
        this.x = x;
    }

    static String of(OwnRain x) {
        Whole whole = new Whole(x);
        whole.tellTape();
        whole.tellTexts();
        whole.tellSteps();
        x.back();
        whole.tellTexts();
        whole.tellSteps();
        x.back();
        whole.readTape();
        return whole.told.toString();
    }

    private void tell(long answer) {
        told.append(answer).append(' ');
    }

    private void tellTape() {
        tell(x.about(13));
        tell(x.fault(0));
        tell(x.fault(1));
    }

    private void tellTexts() {
        int ruling = x.about(8);
        for (int text = 0; text < x.about(7); text++) {
            x.by(text);
            tellLaws();
        }
        x.by(ruling);
    }

    private void tellLaws() {
        for (int f = 0; f < x.about(0); f++) {
            tell(x.foretoldWet(3, f));
        }
        for (int p = 0; p < x.about(1); p++) {
            tell(x.foretoldCloud(3, p, false));
            tell(x.ofPerson(p, 5));
        }
    }

    private void tellSteps() {
        told.append(Seen.of(x)).append('\n');
        for (int left = x.undo(); left != OwnRain.NONE; left = x.undo()) {
            tell(left);
            told.append(Seen.of(x)).append('\n');
        }
    }

    /** A TEXT of the tape is played, too, so that its bytes come out. */
    private void readTape() {
        int text = x.text();
        tell(text);
        tellTape();
        if (text != OwnRain.NONE) {
            x.by(text);
            tellLaws();
            tell(x.played(text));
            told.append(Seen.of(x));
        }
    }
}
