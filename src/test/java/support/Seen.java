/** All that can be seen of an object without changing it, but for the tape and the latest FAULT. */
final class Seen {
    private Seen() {
    }

    static String of(OwnRain x) {
        StringBuilder seen = new StringBuilder();
        for (int what = 0; what < 13; what++) {
            seen.append(x.about(what)).append(' ');
        }
        for (int f = 0; f < 6; f++) {
            for (int what = 0; what < 8; what++) {
                seen.append(x.ofField(f, what)).append(' ');
            }
        }
        int hour = x.about(2);
        for (int p = 0; p < 8; p++) {
            for (int what = 0; what < 6; what++) {
                seen.append(x.ofPerson(p, what)).append(' ');
            }
            for (int h = Math.max(0, hour - 22); h < hour + 2; h++) {
                seen.append(x.ofPerson(p, 10 + h)).append(' ');
            }
        }
        for (int i = 0; i < x.rained(-1, 0); i++) {
            for (int what = 0; what < 4; what++) {
                seen.append(x.rained(i, what)).append(' ');
            }
        }
        for (int i = -1; i < 6; i++) {
            seen.append(x.near(i)).append(' ');
        }
        for (int t = 0; t < 11; t++) {
            seen.append(x.errors(t, true)).append(' ').append(x.errors(t, false)).append(' ');
        }
        for (int price = -1; price < 100; price++) {
            seen.append(x.market(price)).append(' ');
        }
        return seen.append(x.water()).toString();
    }
}
