import java.util.ArrayList;
import java.util.List;
import java.util.Random;

/**
 * Promises 22 to 31, 38 and 39 told a second time: what would be is tried in a copy of a plain model, and of
 * all that can be chosen the best is looked for one by one. Drawn objects must have the same answers by both.
 */
public final class SecondForesightTest {
    private static final Due due = new Due();

    public static void main(String[] args) {
        for (int run = 0; run < 100; run++) {
            Random draw = new Random(run);
            due.about("run " + run);
            Twins both = new Twins(due, draw);
            for (int i = 0; i < 25; i++) {
                both.imageOrBack();
                String call = both.step();
                due.about("run " + run + ", behind " + call + " by " + both.text);
                ask(both.x, both.m, draw);
            }
        }
        due.close();
    }

    private static void ask(OwnRain x, Model m, Random draw) {
        foretold(x, m, 1 + draw.nextInt(30));
        plan(x, m, draw.nextInt(m.people), draw.nextInt(8) == 0 ? 5 : 1 + draw.nextInt(4));
        match(x, m, draw);
        shares(x, m, draw);
        ways(x, m, draw);
        missing(x, m, draw);
        tax(x, m, 1 + draw.nextInt(30));
        water(x, m);
    }

    private static void foretold(OwnRain x, Model m, int n) {
        Model then = m.aside();
        int[] first = new int[8];
        for (int i = 1; i <= n; i++) {
            int before = then.rains.size();
            then.passHour();
            for (int[] rain : then.rains.subList(before, then.rains.size())) {
                first[rain[0]] = first[rain[0]] == 0 ? i : first[rain[0]];
            }
        }
        for (int f = 0; f < m.fields; f++) {
            due.is("foretoldWet(" + n + ", " + f + ")", x.foretoldWet(n, f), then.wet[f]);
        }
        for (int p = 0; p < m.people; p++) {
            due.is("foretoldCloud(" + n + ", " + p + ", false)", x.foretoldCloud(n, p, false), then.cloud[p]);
            due.is("foretoldCloud(" + n + ", " + p + ", true)", x.foretoldCloud(n, p, true), first[p] == 0 ? -1 : first[p]);
        }
    }

    private static void plan(OwnRain x, Model m, int person, int n) {
        int field = m.at[person];
        int best = -1;
        int least = -1;
        for (int plan = 0; plan < 1 << 2 * n; plan++) {
            Model then = m.aside();
            int sweat = 0;
            boolean wet = false;
            boolean drowned = false;
            for (int i = 0; i < n; i++) {
                then.work[person] = plan >> 2 * (n - 1 - i) & 3;
                then.passHour();
                sweat += then.sweats[person];
                wet |= then.heights[field] >= m.needs[field];
                drowned |= then.heights[field] >= m.drowns[field];
            }
            if (wet && !drowned && (best < 0 || sweat < least)) {
                best = plan;
                least = sweat;
            }
        }
        String call = "plan(" + person + ", " + n + ", ";
        due.is(call + "-1)", x.plan(person, n, -1), least);
        for (int i = 0; i < n; i++) {
            due.is(call + i + ")", x.plan(person, n, i), best < 0 ? -1 : best >> 2 * (n - 1 - i) & 3);
        }
    }

    private static int drawSet(int of, int many, Random draw) {
        int set = 0;
        while (Integer.bitCount(set) < many) {
            set |= 1 << draw.nextInt(of);
        }
        return set;
    }

    private static void match(OwnRain x, Model m, Random draw) {
        int many = 1 + draw.nextInt(Math.min(m.people, m.fields));
        int people = drawSet(m.people, many, draw);
        int fields = drawSet(m.fields, many, draw);
        int[][] sweat = new int[8][6];
        for (int p = 0; p < m.people; p++) {
            for (int f = 0; f < m.fields; f++) {
                Model then = m.aside();
                java.util.Arrays.fill(then.at, -1);
                then.at[p] = f;
                then.work[p] = 9;
                sweat[p][f] = then.sweat(p);
            }
        }
        int[] best = new int[9];
        best[8] = -1;
        tryFields(people, fields, 0, new int[9], sweat, best);
        String call = "match(" + people + ", " + fields + ", ";
        due.is(call + "-1)", x.match(people, fields, -1), best[8]);
        for (int p = 0; p < 8; p++) {
            due.is(call + p + ")", x.match(people, fields, p), (people >> p & 1) == 1 ? best[p] : -1);
        }
    }

    /** Each way by ascending FIELDS of ascending PEOPLE; how much is at the end. */
    private static void tryFields(int people, int fields, int p, int[] tried, int[][] sweat, int[] best) {
        if (p == 8) {
            if (tried[8] > best[8]) {
                System.arraycopy(tried, 0, best, 0, 9);
            }
        } else if ((people >> p & 1) == 0) {
            tryFields(people, fields, p + 1, tried, sweat, best);
        } else {
            for (int f = 0; f < 6; f++) {
                if ((fields >> f & 1) == 1) {
                    tried[p] = f;
                    tried[8] += sweat[p][f];
                    tryFields(people, fields & ~(1 << f), p + 1, tried, sweat, best);
                    tried[8] -= sweat[p][f];
                }
            }
        }
    }

    private static void shares(OwnRain x, Model m, Random draw) {
        int people = 1 + draw.nextInt((1 << m.people) - 1);
        int amount = draw.nextInt(1000);
        int all = 0;
        for (int p = 0; p < m.people; p++) {
            all += (people >> p & 1) * m.cloud[p];
        }
        int[] share = new int[8];
        int[] over = new int[8];
        int left = amount;
        for (int p = 0; p < m.people && all > 0; p++) {
            share[p] = (people >> p & 1) * (amount * m.cloud[p] / all);
            over[p] = (people >> p & 1) * (amount * m.cloud[p] % all);
            left -= share[p];
        }
        while (left > 0 && all > 0) {
            int most = 0;
            for (int p = 1; p < 8; p++) {
                most = over[p] > over[most] ? p : most;
            }
            share[most]++;
            over[most] = 0;
            left--;
        }
        for (int p = 0; p < 8; p++) {
            boolean one = (people >> p & 1) == 1 && all > 0;
            due.is("shares(" + people + ", " + amount + ", " + p + ")", x.shares(people, amount, p), one ? share[p] : -1);
        }
    }

    private static void ways(OwnRain x, Model m, Random draw) {
        int from = draw.nextInt(m.fields);
        int to = draw.nextInt(m.fields);
        int thirst = Math.max(0, Math.min(999, m.wet[draw.nextInt(m.fields)] + draw.nextInt(3) - 1));
        List<int[]> ways = new ArrayList<>();
        goOn(m, new int[] {from}, to, ways);
        int[] best = null;
        int widest = -1;
        for (int[] way : ways) {
            int width = 999;
            for (int i = 1; i < way.length; i++) {
                width = Math.min(width, m.wet[way[i]]);
            }
            widest = Math.max(widest, width);
            // Ways come by ascending FIELDS, so of like ones the first is the one.
            if (width >= thirst && (best == null || way.length < best.length)) {
                best = way;
            }
        }
        String call = "cross(" + from + ", " + to + ", " + thirst + ", ";
        due.is("widest(" + from + ", " + to + ")", x.widest(from, to), widest);
        boolean there = from == to;
        due.is(call + "-1)", x.cross(from, to, thirst, -1), there ? 0 : best == null ? -1 : best.length - 1);
        for (int i = 0; i < 7; i++) {
            due.is(call + i + ")", x.cross(from, to, thirst, i), best == null || i + 1 >= best.length ? -1 : best[i + 1]);
        }
    }

    /** All ways on from the last of those come to, none of them twice. */
    private static void goOn(Model m, int[] way, int to, List<int[]> ways) {
        int at = way[way.length - 1];
        if (at == to) {
            ways.add(way);
            return;
        }
        for (int f = 0; f < m.fields; f++) {
            int next = f;
            if (m.road[at][f] && java.util.Arrays.stream(way).noneMatch(gone -> gone == next)) {
                int[] longer = java.util.Arrays.copyOf(way, way.length + 1);
                longer[way.length] = f;
                goOn(m, longer, to, ways);
            }
        }
    }

    private static void missing(OwnRain x, Model m, Random draw) {
        int person = draw.nextInt(m.people);
        int from = Math.max(0, m.hour - draw.nextInt(30));
        int to = from + draw.nextInt(6);
        if (draw.nextInt(9) == 0) {
            m.missing.clear();
            due.is("missing(-1, ..)", x.missing(-1, from, to), 0);
        } else if (draw.nextInt(3) == 0) {
            boolean more = m.missing.size() < 6 && to < 1000;
            if (more) {
                m.missing.add(new int[] {person, from, to});
            }
            due.is("missing", x.missing(person, from, to), more ? m.missing.size() : -2);
        }
        int suspects = (1 << m.people) - 1;
        int[] near = new int[m.missing.size()];
        for (int i = 0; i < near.length; i++) {
            near[i] = nearOnes(m, m.missing.get(i));
            suspects &= near[i];
            due.is("near(" + i + ")", x.near(i), near[i]);
        }
        due.is("near(-1)", x.near(-1), suspects);
        due.is("near behind the last", x.near(near.length), -2);
        due.is("thieves()", x.thieves(), fewest(near, m.people));
    }

    private static int nearOnes(Model m, int[] missing) {
        int near = 0;
        for (int h = 0; h < m.hour; h++) {
            int[] where = m.where.get(h);
            boolean asked = h >= missing[1] && h <= missing[2] && h >= m.hour - 20 && where.length > missing[0];
            for (int p = 0; p < where.length && asked; p++) {
                near |= p != missing[0] && where[p] == where[missing[0]] ? 1 << p : 0;
            }
        }
        return near;
    }

    private static int fewest(int[] near, int people) {
        for (int many = 0; many <= people; many++) {
            for (int set = 0; set < 1 << people; set++) {
                boolean all = Integer.bitCount(set) == many;
                for (int ones : near) {
                    all &= (ones & set) != 0;
                }
                if (all) {
                    return set;
                }
            }
        }
        return -1;
    }

    private static void tax(OwnRain x, Model m, int n) {
        int[] grown = null;
        int greatest = 0;
        for (int tax = 0; tax <= 10; tax++) {
            Model then = m.aside();
            then.tax = tax;
            for (int i = 0; i < n; i++) {
                then.passHour();
            }
            grown = grown == null ? then.grown : grown;
            boolean asMuch = true;
            for (int f = 0; f < m.fields; f++) {
                asMuch &= then.grown[f] >= grown[f];
            }
            greatest = asMuch ? tax : greatest;
        }
        due.is("greatestTax(" + n + ")", x.greatestTax(n), greatest);
    }

    private static void water(OwnRain x, Model m) {
        int told = 0;
        for (int p = 0; p < m.people; p++) {
            told += m.brought[p];
        }
        due.is("water()", x.water(), told);
    }
}
