import java.util.ArrayDeque;
import java.util.ArrayList;
import java.util.Arrays;
import java.util.Deque;
import java.util.List;
import java.util.Random;

/**
 * Promises 10 to 18 told a second time, as plainly as can be: laws are trees that are walked anew
 * for everybody, STEPS are whole copies. Drawn runs must have the same answers by both.
 */
public final class SecondOpinionTest {
    private static final Due due = new Due();
    private static final int BOUND = 1000000;

    public static void main(String[] args) {
        for (int run = 0; run < 400; run++) {
            due.about("run " + run);
            play(new Random(run));
        }
        due.close();
    }

    /** A part of a law: how it is written, and its value. */
    private interface Part {
        String written();

        long value(Model m, int field, int person, int both);
    }

    private static Part part(String written, Value value) {
        return new Part() {
            @Override
            public String written() {
                return written;
            }

            @Override
            public long value(Model m, int field, int person, int both) {
                return Math.max(-BOUND, Math.min(BOUND, value.of(m, field, person, both)));
            }
        };
    }

    private interface Value {
        long of(Model m, int field, int person, int both);
    }

    /** Draws laws; open tells how many of ( not sum count and - can still be open. */
    private static final class Drawn {
        private final Random draw;
        private final String law;

        Drawn(Random draw, String law) {
            this.draw = draw;
            this.law = law;
        }

        Part sum(int open, boolean own) {
            Part left = product(open, own);
            for (int i = draw.nextInt(3); i > 0; i--) {
                Part one = left;
                Part other = product(open, own);
                left = draw.nextBoolean()
                        ? part(one.written() + "+" + other.written(), (m, f, p, b) -> one.value(m, f, p, b) + other.value(m, f, p, b))
                        : part(one.written() + "-" + other.written(), (m, f, p, b) -> one.value(m, f, p, b) - other.value(m, f, p, b));
            }
            return left;
        }

        private Part product(int open, boolean own) {
            Part left = one(open, own);
            for (int i = draw.nextInt(5) / 3; i > 0; i--) {
                Part one = left;
                Part other = one(open, own);
                left = draw.nextBoolean()
                        ? part(one.written() + " * " + other.written(), (m, f, p, b) -> one.value(m, f, p, b) * other.value(m, f, p, b))
                        : part(one.written() + "/" + other.written(), (m, f, p, b) -> {
                            long by = other.value(m, f, p, b);
                            return by == 0 ? 0 : one.value(m, f, p, b) / by;
                        });
            }
            return left;
        }

        private Part one(int open, boolean own) {
            int what = draw.nextInt(open > 0 ? 9 : 5);
            if (what < 2) {
                int number = draw.nextInt(10) == 0 ? draw.nextInt(10000) : draw.nextInt(20);
                return part("" + number, (m, f, p, b) -> number);
            }
            if (what < 5) {
                return name(own);
            }
            if (what == 5) {
                Part in = sum(open - 1, own);
                return part("(" + in.written() + ")", in::value);
            }
            if (what == 6) {
                Part in = one(open - 1, own);
                return part("-" + in.written(), (m, f, p, b) -> -in.value(m, f, p, b));
            }
            boolean counts = what == 7;
            Part in = counts ? either(open - 1) : sum(open - 1, true);
            return part((counts ? "count " : "sum ") + in.written() + " end", (m, f, p, b) -> {
                long all = 0;
                for (int q = 0; q < m.people; q++) {
                    if (m.at[q] == f) {
                        all = Math.max(-BOUND, Math.min(BOUND, all + in.value(m, f, q, b)));
                    }
                }
                return all;
            });
        }

        private Part name(boolean own) {
            int many = (own ? 10 : 4) + (law.equals("share") ? 1 : 0);
            int name = draw.nextInt(many);
            switch (name) {
                case 0:
                    return part("here", (m, f, p, b) -> f);
                case 1:
                    return part("heat", (m, f, p, b) -> m.heat[f]);
                case 2:
                    return part("wet", (m, f, p, b) -> m.wet[f]);
                case 3:
                    return part("hour", (m, f, p, b) -> m.hour);
                case 4:
                    return part("who", (m, f, p, b) -> p);
                case 5:
                    return part("age", (m, f, p, b) -> m.age[p]);
                case 6:
                    return part("full", (m, f, p, b) -> m.full[p]);
                case 7:
                    return part("cloud", (m, f, p, b) -> m.cloud[p]);
                case 8:
                    return part("work", (m, f, p, b) -> m.work[p]);
                case 9:
                    return part("old", (m, f, p, b) -> m.age[p] > 59 ? 1 : 0);
                default:
                    return part("both", (m, f, p, b) -> b);
            }
        }

        private Part either(int open) {
            Part left = both(open);
            for (int i = draw.nextInt(5) / 4; i > 0; i--) {
                Part one = left;
                Part other = both(open);
                left = part(one.written() + " or " + other.written(),
                        (m, f, p, b) -> one.value(m, f, p, b) + other.value(m, f, p, b) > 0 ? 1 : 0);
            }
            return left;
        }

        private Part both(int open) {
            Part left = ask(open);
            for (int i = draw.nextInt(5) / 4; i > 0; i--) {
                Part one = left;
                Part other = ask(open);
                left = part(one.written() + " and " + other.written(), (m, f, p, b) -> one.value(m, f, p, b) * other.value(m, f, p, b));
            }
            return left;
        }

        private Part ask(int open) {
            if (open > 0 && draw.nextInt(4) == 0) {
                Part in = ask(open - 1);
                return part("not " + in.written(), (m, f, p, b) -> in.value(m, f, p, b) == 0 ? 1 : 0);
            }
            Part one = sum(open, true);
            Part other = sum(open, true);
            String[] signs = {"<", "<=", ">", ">=", "=", "#"};
            int sign = draw.nextInt(6);
            return part(one.written() + signs[sign] + other.written(), (m, f, p, b) -> {
                int order = Long.compare(one.value(m, f, p, b), other.value(m, f, p, b));
                boolean[] so = {order < 0, order <= 0, order > 0, order >= 0, order == 0, order != 0};
                return so[sign] ? 1 : 0;
            });
        }
    }

    /** All that is told in I. */
    private static final class Model {
        int fields;
        int people;
        int[] heat = new int[6];
        int[] needs = new int[6];
        int[] drowns = new int[6];
        int[] wet = new int[6];
        int[] grown = new int[6];
        int[] flooded = new int[6];
        boolean[][] road = new boolean[6][6];
        int[] full = new int[8];
        int[] age = new int[8];
        int[] at = new int[8];
        int[] cloud = new int[8];
        int[] work = new int[8];
        int[] home = new int[8];
        int[] brought = new int[8];
        int cistern;
        int sweated;
        int dried;
        int hour;
        int x = 37;
        List<int[]> rains = new ArrayList<>();
        List<int[]> where = new ArrayList<>();
        Part[] laws = new Part[5];
        Deque<Model> steps = new ArrayDeque<>();

        Model copy() {
            Model m = new Model();
            m.people = people;
            m.wet = wet.clone();
            m.grown = grown.clone();
            m.flooded = flooded.clone();
            m.at = at.clone();
            m.cloud = cloud.clone();
            m.work = work.clone();
            m.cistern = cistern;
            m.sweated = sweated;
            m.dried = dried;
            m.hour = hour;
            m.x = x;
            m.rains = new ArrayList<>(rains);
            m.where = new ArrayList<>(where);
            return m;
        }

        void step() {
            steps.push(copy());
            if (steps.size() > 30) {
                steps.removeLast();
            }
        }

        int undo() {
            if (steps.isEmpty()) {
                return -1;
            }
            Model m = steps.pop();
            wet = m.wet;
            grown = m.grown;
            flooded = m.flooded;
            cistern = m.cistern;
            sweated = m.sweated;
            dried = m.dried;
            hour = m.hour;
            x = m.x;
            rains = m.rains;
            where = m.where;
            for (int p = 0; p < people; p++) {
                boolean since = p >= m.people;
                at[p] = since ? home[p] : m.at[p];
                cloud[p] = since ? brought[p] : m.cloud[p];
                work[p] = since ? 0 : m.work[p];
            }
            return steps.size();
        }

        int law(int which, int without, int most, int field, int person, int both) {
            long value = laws[which] == null ? without : laws[which].value(this, field, person, both);
            return (int) Math.max(0, Math.min(most, value));
        }

        int sweat(int p) {
            return Math.min(999 - cloud[p], law(0, work[p], 99, at[p], p, 0));
        }

        int passHour() {
            int before = rains.size();
            for (int p = 0; p < people; p++) {
                int sweat = sweat(p);
                cloud[p] += sweat;
                sweated += sweat;
            }
            for (int p = 0; p < people; p++) {
                if (cloud[p] >= full[p]) {
                    int rain = law(1, cloud[p], cloud[p], at[p], p, 0);
                    int tax = rain * law(2, 0, 10, at[p], p, 0) / 10;
                    cistern += tax;
                    wet[at[p]] += rain - tax;
                    cloud[p] -= rain;
                    rains.add(new int[] {p, hour, at[p], rain});
                }
            }
            for (int f = 0; f < fields; f++) {
                grown[f] += wet[f] >= needs[f] && wet[f] < drowns[f] ? 1 : 0;
                flooded[f] += wet[f] >= drowns[f] ? 1 : 0;
                int dries = law(3, heat[f], wet[f], f, -1, 0);
                wet[f] -= dries;
                dried += dries;
            }
            where.add(Arrays.copyOf(at, people));
            hour++;
            return rains.size() - before;
        }

        boolean meets(int one, int other) {
            return one != other && at[one] == at[other];
        }

        void shake(int one, int other) {
            int both = cloud[one] + cloud[other];
            int share = law(4, both / 2, both, at[one], one, both);
            while (share > 999) {
                share--;
            }
            while (both - share > 999) {
                share++;
            }
            cloud[one] = share;
            cloud[other] = both - share;
        }

        boolean canSteal(int thief, int from, int drops) {
            return meets(thief, from) && drops > 0 && drops < 100 && drops <= cloud[from] && cloud[thief] + drops <= 999;
        }

        void steal(int thief, int from, int drops) {
            cloud[thief] += drops;
            cloud[from] -= drops;
        }

        int year(int seed, int n) {
            int rained = 0;
            x = seed * 2 + 37;
            for (int i = 0; i < n; i++) {
                int p = x % people;
                x = (x * 233 + 131) % 30187;
                if (x % 6 == 0) {
                    work[p] = x % 10;
                } else if (x % 6 == 1 && road[at[p]][x % fields]) {
                    at[p] = x % fields;
                } else if (x % 6 == 2 && meets(p, x % people)) {
                    shake(p, x % people);
                } else if (x % 6 == 3) {
                    int drops = Math.min(x % 9 + 1, cloud[x % people]);
                    if (canSteal(p, x % people, drops)) {
                        steal(p, x % people, drops);
                    }
                } else if (x % 6 > 3 && hour < 999) {
                    rained += passHour();
                }
                x = (x * 233 + 131) % 30187;
            }
            return rained;
        }

        String seen() {
            StringBuilder seen = new StringBuilder();
            seen.append(fields).append(' ').append(people).append(' ').append(hour).append(' ').append(cistern).append(' ');
            seen.append(sweated).append(' ').append(dried).append(' ').append(x).append(' ').append(steps.size()).append(' ');
            for (int f = 0; f < fields; f++) {
                seen.append(wet[f]).append(' ').append(grown[f]).append(' ').append(flooded[f]).append(' ');
            }
            for (int p = 0; p < people; p++) {
                seen.append(at[p]).append(' ').append(cloud[p]).append(' ').append(work[p]).append(' ').append(sweat(p)).append(' ');
                for (int h = 0; h <= hour + 1; h++) {
                    boolean kept = h < hour && h >= hour - 20 && where.get(h).length > p;
                    seen.append(kept ? where.get(h)[p] : -1).append(' ');
                }
            }
            for (int i = Math.max(0, rains.size() - 40); i < rains.size(); i++) {
                for (int part : rains.get(i)) {
                    seen.append(part).append(' ');
                }
            }
            return seen.toString();
        }
    }

    private static String seen(OwnRain x) {
        StringBuilder seen = new StringBuilder();
        for (int what : new int[] {0, 1, 2, 3, 4, 5, 6, 9}) {
            seen.append(x.about(what)).append(' ');
        }
        for (int f = 0; f < x.about(0); f++) {
            for (int what = 3; what < 6; what++) {
                seen.append(x.ofField(f, what)).append(' ');
            }
        }
        for (int p = 0; p < x.about(1); p++) {
            for (int what = 2; what < 6; what++) {
                seen.append(x.ofPerson(p, what)).append(' ');
            }
            for (int h = 0; h <= x.about(2) + 1; h++) {
                seen.append(x.ofPerson(p, 10 + h)).append(' ');
            }
        }
        for (int i = 0; i < x.rained(-1, 0); i++) {
            for (int what = 0; what < 4; what++) {
                seen.append(x.rained(i, what)).append(' ');
            }
        }
        return seen.toString();
    }

    private static void play(Random draw) {
        OwnRain x = new OwnRain();
        Model m = new Model();
        String[] names = {"sweat", "rain", "tax", "dries", "share"};
        StringBuilder text = new StringBuilder();
        for (int law : new int[] {draw.nextInt(5), draw.nextInt(5), draw.nextInt(5), draw.nextInt(5)}) {
            Part part = new Drawn(draw, names[law]).sum(draw.nextInt(5), law != 3);
            if (m.laws[law] == null && text.length() + part.written().length() < 285) {
                text.append(names[law]).append(' ').append(part.written()).append(";\n");
                m.laws[law] = part;
            }
        }
        due.is("reading " + text, Due.read(x, text.toString()), 0);
        x.by(0);
        tellFields(x, m, draw, 1 + draw.nextInt(3));
        tellPeople(x, m, draw, 1 + draw.nextInt(5));
        for (int i = 0; i < 60; i++) {
            String call = step(x, m, draw);
            boolean same = seen(x).equals(m.seen());
            due.is("all behind " + call + " by " + text, same, true);
            if (!same) {
                break;
            }
        }
    }

    private static void tellFields(OwnRain x, Model m, Random draw, int many) {
        for (int i = 0; i < many && m.fields < 6; i++) {
            int f = m.fields++;
            m.heat[f] = draw.nextInt(10);
            m.needs[f] = draw.nextInt(50);
            m.drowns[f] = m.needs[f] + 1 + draw.nextInt(50);
            due.is("field", x.field(m.heat[f], m.needs[f], m.drowns[f]), f);
            int other = draw.nextInt(m.fields);
            due.is("road", x.road(f, other), f != other);
            m.road[f][other] = f != other;
            m.road[other][f] = f != other;
        }
    }

    private static void tellPeople(OwnRain x, Model m, Random draw, int many) {
        for (int i = 0; i < many && m.people < 8; i++) {
            int p = m.people++;
            m.full[p] = 1 + draw.nextInt(99);
            m.age[p] = draw.nextInt(100);
            m.home[p] = draw.nextInt(m.fields);
            m.at[p] = m.home[p];
            m.brought[p] = draw.nextInt(4) == 0 ? draw.nextInt(1000) : draw.nextInt(60);
            m.cloud[p] = m.brought[p];
            due.is("person", x.person(m.full[p], m.age[p], m.home[p], m.brought[p]), p);
        }
    }

    /** One drawn call on both; its name. */
    private static String step(OwnRain x, Model m, Random draw) {
        int p = draw.nextInt(m.people);
        int q = draw.nextInt(m.people);
        int f = draw.nextInt(m.fields);
        int n = 1 + draw.nextInt(99);
        switch (draw.nextInt(11)) {
            case 0:
            case 1:
                return hours(x, m, 1 + draw.nextInt(4));
            case 2:
                boolean works = m.work[p] != n % 10;
                if (works) {
                    m.step();
                    m.work[p] = n % 10;
                }
                due.is("work", x.work(p, n % 10), works);
                return "work";
            case 3:
                boolean goes = m.road[m.at[p]][f];
                if (goes) {
                    m.step();
                    m.at[p] = f;
                }
                due.is("go", x.go(p, f), goes);
                return "go";
            case 4:
                boolean shakes = m.meets(p, q);
                if (shakes) {
                    m.step();
                    m.shake(p, q);
                }
                due.is("shake", x.shake(p, q), shakes ? m.cloud[p] : -1);
                return "shake";
            case 5:
                boolean steals = m.canSteal(p, q, n);
                if (steals) {
                    m.step();
                    m.steal(p, q, n);
                }
                due.is("steal", x.steal(p, q, n), steals ? m.cloud[p] : -1);
                return "steal";
            case 6:
                boolean pours = n <= m.cistern;
                if (pours) {
                    m.step();
                    m.cistern -= n;
                    m.wet[f] += n;
                }
                due.is("pour", x.pour(n, f), pours ? m.wet[f] : -1);
                return "pour";
            case 7:
                int seed = draw.nextInt(10000);
                int long30 = 1 + draw.nextInt(30);
                m.step();
                due.is("year", x.year(seed, long30), m.year(seed, long30));
                return "year";
            case 8:
                tellFields(x, m, draw, draw.nextInt(10) / 8);
                tellPeople(x, m, draw, draw.nextInt(10) / 8);
                return "telling";
            default:
                due.is("undo", x.undo(), m.undo());
                return "undo";
        }
    }

    private static String hours(OwnRain x, Model m, int n) {
        if (m.hour + n > 999) {
            due.is("hour", x.hour(n), -1);
            return "hour";
        }
        int rained = 0;
        for (int i = 0; i < n; i++) {
            m.step();
            rained += m.passHour();
        }
        due.is("hour", x.hour(n), rained);
        return "hour";
    }
}
