/** Objects of which much has been told. */
final class Village {
    private Village() {
    }

    /**
     * FIELDS 0 to 3, ROADS 0-1 and 1-2; PEOPLE 0 1 3 on FIELD 0, 2 on FIELD 2, with CLOUDS 0 3 0 998 and
     * WORK 6 3 0 0; CISTERN 16, WET 12 0 0 0; HOUR 3; TEXTS 0 and 1, of which 0 rules; the latest FAULT is
     * 1 at 5; 15 bytes on the tape; 6 STEPS; 2 MISSING, 2 FORECASTS, 3 OFFERS; an IMAGE of HOUR 1.
     */
    static OwnRain anew() {
        OwnRain x = new OwnRain();
        x.field(3, 10, 40);
        x.field(2, 5, 30);
        x.field(1, 0, 20);
        x.field(0, 1, 999);
        x.road(0, 1);
        x.road(1, 2);
        x.person(20, 30, 0, 5);
        x.person(10, 70, 0, 8);
        x.person(15, 40, 1, 0);
        x.work(0, 6);
        Due.read(x, "tax 5;");
        x.by(0);
        x.hour(1);
        x.image();
        x.work(1, 3);
        x.hour(2);
        x.person(99, 59, 0, 998);
        x.go(2, 2);
        tellLists(x);
        Due.read(x, "sweat 2;dries 1;");
        Due.read(x, "rain rain;");
        Due.load(x, "share 0;hour 3;");
        return x;
    }

    private static void tellLists(OwnRain x) {
        x.missing(0, 0, 5);
        x.missing(1, 1, 1);
        x.forecast(7, true);
        x.forecast(3, false);
        x.offer(true, 10, 5);
        x.offer(false, 4, 3);
        x.offer(false, 8, 4);
    }

    /** As much of everything as there can be; HOUR 999. */
    static OwnRain full() {
        OwnRain x = new OwnRain();
        for (int f = 0; f < 6; f++) {
            x.field(f, f, 100 + f);
        }
        for (int one = 0; one < 6; one++) {
            for (int other = 0; other < one; other++) {
                x.road(one, other);
            }
        }
        for (int p = 0; p < 8; p++) {
            x.person(3 + p, 55 + p, p % 6, 10 * p);
            x.work(p, 1);
        }
        atHour(x, 999);
        for (int i = 0; i < 12; i++) {
            x.missing(i % 8, 980 + i, 985 + i);
            x.forecast(i % 10, i % 3 == 0);
            x.offer(i % 2 == 0, 90 - i * 7 % 50, 1 + i);
        }
        Due.read(x, "sweat 1;");
        Due.read(x, "tax 5;");
        Due.read(x, "rain 1;");
        Due.read(x, "hour 1;");
        x.by(1);
        for (int i = 0; i < 15; i++) {
            // "tax 1+1+1+1+1+1+1;  ".
            x.feed(0x74617820, 0x312b312b, 0x312b312b, 0x312b312b, 0x313b2020);
        }
        return x;
    }

    /** Lets HOURS pass until it is that one. */
    static void atHour(OwnRain x, int hour) {
        for (int left = hour - x.about(2); left > 0; left -= 30) {
            x.hour(Math.min(30, left));
        }
    }
}
