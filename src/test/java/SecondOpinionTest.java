import java.util.Random;

/**
 * Promises 9 to 18, 40 and 41 told a second time, as plainly as can be: laws are trees that are walked
 * anew for everybody, STEPS and the IMAGE are whole copies. Drawn runs must have the same answers by both.
 */
public final class SecondOpinionTest {
    private static final Due due = new Due();

    public static void main(String[] args) {
        for (int run = 0; run < 400; run++) {
            due.about("run " + run);
            play(new Random(run));
        }
        due.close();
    }

    private static String seen(OwnRain x) {
        StringBuilder seen = new StringBuilder();
        for (int what : new int[] {0, 1, 2, 3, 4, 5, 6, 8, 9}) {
            seen.append(x.about(what)).append(' ');
        }
        for (int f = 0; f < x.about(0); f++) {
            for (int what = 3; what < 6; what++) {
                seen.append(x.ofField(f, what)).append(' ');
            }
        }
        for (int p = 0; p < x.about(1); p++) {
            for (int what = 2; what < 6; what++) {
                seen.append(x.ofPerson(p, what)).append(' ');
            }
            for (int h = 0; h <= x.about(2) + 1; h++) {
                seen.append(x.ofPerson(p, 10 + h)).append(' ');
            }
        }
        for (int i = 0; i < x.rained(-1, 0); i++) {
            for (int what = 0; what < 4; what++) {
                seen.append(x.rained(i, what)).append(' ');
            }
        }
        return seen.toString();
    }

    private static void play(Random draw) {
        Twins both = new Twins(due, draw);
        boolean same = true;
        for (int i = 0; i < 90 && same; i++) {
            both.imageOrBack();
            String call = both.step();
            same = seen(both.x).equals(both.m.seen());
            due.is("all behind " + call + " by " + both.text, same, true);
        }
    }
}
