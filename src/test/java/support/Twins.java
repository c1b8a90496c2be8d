import java.util.Random;

/** An object and a Model that are told the same and do the same, as it is drawn. */
final class Twins {
    final OwnRain x = new OwnRain();
    Model m = new Model();
    final String text;
    private final Due due;
    private final Random draw;

    /** With some laws, FIELDS and PEOPLE, and an image of these. */
    Twins(Due due, Random draw) {
        this.due = due;
        this.draw = draw;
        text = tellLaws();
        tellFields(1 + draw.nextInt(3));
        tellPeople(1 + draw.nextInt(5));
        m.image = m.copyOfAll();
        due.is("image", x.image(), 0);
    }

    private String tellLaws() {
        String[] names = {"sweat", "rain", "tax", "dries", "share"};
        StringBuilder told = new StringBuilder();
        for (int law : new int[] {draw.nextInt(5), draw.nextInt(5), draw.nextInt(5), draw.nextInt(5)}) {
            Law drawn = Law.drawn(draw, names[law], draw.nextInt(5));
            if (m.laws[law] == null && told.length() + drawn.written().length() < 285) {
                told.append(names[law]).append(' ').append(drawn.written()).append(";\n");
                m.laws[law] = drawn;
            }
        }
        due.is("reading " + told, Due.read(x, told.toString()), 0);
        due.is("by", x.by(0), true);
        return told.toString();
    }

    /** Now and then an image, or back to it. */
    void imageOrBack() {
        boolean images = draw.nextInt(12) == 0;
        if (images && draw.nextBoolean()) {
            Model image = m.image;
            m = image.copyOfAll();
            m.image = image;
            due.is("back", x.back(), m.hour);
        } else if (images) {
            m.image = m.copyOfAll();
            due.is("image", x.image(), m.hour);
        }
    }

    private void tellFields(int many) {
        for (int i = 0; i < many && m.fields < 6; i++) {
            int f = m.fields++;
            m.heat[f] = draw.nextInt(10);
            m.needs[f] = draw.nextInt(50);
            m.drowns[f] = m.needs[f] + 1 + draw.nextInt(50);
            due.is("field", x.field(m.heat[f], m.needs[f], m.drowns[f]), f);
            tellRoad(f, draw.nextInt(m.fields));
            tellRoad(f, draw.nextInt(m.fields));
        }
    }

    private void tellRoad(int one, int other) {
        boolean told = one != other && !m.road[one][other];
        due.is("road", x.road(one, other), told);
        m.road[one][other] |= told;
        m.road[other][one] |= told;
    }

    private void tellPeople(int many) {
        for (int i = 0; i < many && m.people < 8; i++) {
            int p = m.people++;
            m.full[p] = 1 + draw.nextInt(99);
            m.age[p] = draw.nextInt(100);
            m.home[p] = draw.nextInt(m.fields);
            m.at[p] = m.home[p];
            m.brought[p] = draw.nextInt(4) == 0 ? draw.nextInt(1000) : draw.nextInt(60);
            m.cloud[p] = m.brought[p];
            due.is("person", x.person(m.full[p], m.age[p], m.home[p], m.brought[p]), p);
        }
    }

    /** One drawn call on both; its name. */
    String step() {
        int p = draw.nextInt(m.people);
        int q = draw.nextInt(m.people);
        int f = draw.nextInt(m.fields);
        int n = 1 + draw.nextInt(99);
        switch (draw.nextInt(12)) {
            case 0:
            case 1:
                return hours(1 + draw.nextInt(4));
            case 2:
                boolean works = m.work[p] != n % 10;
                if (works) {
                    m.step();
                    m.work[p] = n % 10;
                }
                due.is("work", x.work(p, n % 10), works);
                return "work";
            case 3:
                boolean goes = m.road[m.at[p]][f];
                if (goes) {
                    m.step();
                    m.at[p] = f;
                }
                due.is("go", x.go(p, f), goes);
                return "go";
            case 4:
                boolean shakes = m.meets(p, q);
                if (shakes) {
                    m.step();
                    m.shake(p, q);
                }
                due.is("shake", x.shake(p, q), shakes ? m.cloud[p] : -1);
                return "shake";
            case 5:
                boolean steals = m.canSteal(p, q, n);
                if (steals) {
                    m.step();
                    m.steal(p, q, n);
                }
                due.is("steal", x.steal(p, q, n), steals ? m.cloud[p] : -1);
                return "steal";
            case 6:
                boolean pours = n <= m.cistern;
                if (pours) {
                    m.step();
                    m.cistern -= n;
                    m.wet[f] += n;
                }
                due.is("pour", x.pour(n, f), pours ? m.wet[f] : -1);
                return "pour";
            case 7:
                int seed = draw.nextInt(10000);
                int long30 = 1 + draw.nextInt(30);
                m.step();
                due.is("year", x.year(seed, long30), m.year(seed, long30));
                return "year";
            case 8:
                tellFields(draw.nextInt(10) / 8);
                tellPeople(draw.nextInt(10) / 8);
                return "telling";
            case 9:
                m.ruled = draw.nextInt(4) > 0;
                due.is("by", x.by(m.ruled ? 0 : -1), true);
                return "by";
            default:
                due.is("undo", x.undo(), m.undo());
                return "undo";
        }
    }

    private String hours(int n) {
        if (m.hour + n > 999) {
            due.is("hour", x.hour(n), -1);
            return "hour";
        }
        int rained = 0;
        for (int i = 0; i < n; i++) {
            m.step();
            rained += m.passHour();
        }
        due.is("hour", x.hour(n), rained);
        return "hour";
    }
}
