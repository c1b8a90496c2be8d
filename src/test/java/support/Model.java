import java.util.ArrayDeque;
import java.util.ArrayList;
import java.util.Arrays;
import java.util.Deque;
import java.util.List;

/** All that is told in I, as plainly as can be: STEPS and the image are whole copies. */
final class Model {
    int fields;
    int people;
    int[] heat = new int[6];
    int[] needs = new int[6];
    int[] drowns = new int[6];
    int[] wet = new int[6];
    int[] grown = new int[6];
    int[] flooded = new int[6];
    boolean[][] road = new boolean[6][6];
    int[] full = new int[8];
    int[] age = new int[8];
    int[] at = new int[8];
    int[] cloud = new int[8];
    int[] work = new int[8];
    int[] home = new int[8];
    int[] brought = new int[8];
    int cistern;
    int sweated;
    int dried;
    int hour;
    int x = 37;
    List<int[]> rains = new ArrayList<>();
    List<int[]> where = new ArrayList<>();
    Law[] laws = new Law[5];
    boolean ruled = true;
    /** Instead of the law of tax; -1: that. */
    int tax = -1;
    List<int[]> missing = new ArrayList<>();
    /** Of the latest HOUR: what each PERSON sweated, and WET ahead of drying. */
    final int[] sweats = new int[8];
    final int[] heights = new int[6];
    Deque<Model> steps = new ArrayDeque<>();
    Model image;

    Model copy() {
        Model m = new Model();
        m.people = people;
        m.wet = wet.clone();
        m.grown = grown.clone();
        m.flooded = flooded.clone();
        m.at = at.clone();
        m.cloud = cloud.clone();
        m.work = work.clone();
        m.cistern = cistern;
        m.sweated = sweated;
        m.dried = dried;
        m.hour = hour;
        m.x = x;
        m.rains = new ArrayList<>(rains);
        m.where = new ArrayList<>(where);
        return m;
    }

    /** All but the image, which is no part of itself. */
    Model copyOfAll() {
        Model m = aside();
        steps.forEach(step -> m.steps.addLast(step.copy()));
        return m;
    }

    /** To try something in: all but the STEPS and the image. */
    Model aside() {
        Model m = copy();
        m.fields = fields;
        m.heat = heat.clone();
        m.needs = needs.clone();
        m.drowns = drowns.clone();
        for (int f = 0; f < 6; f++) {
            m.road[f] = road[f].clone();
        }
        m.full = full.clone();
        m.age = age.clone();
        m.home = home.clone();
        m.brought = brought.clone();
        m.laws = laws;
        m.ruled = ruled;
        m.missing = new ArrayList<>(missing);
        return m;
    }

    void step() {
        steps.push(copy());
        if (steps.size() > 30) {
            steps.removeLast();
        }
    }

    int undo() {
        if (steps.isEmpty()) {
            return -1;
        }
        Model m = steps.pop();
        wet = m.wet;
        grown = m.grown;
        flooded = m.flooded;
        cistern = m.cistern;
        sweated = m.sweated;
        dried = m.dried;
        hour = m.hour;
        x = m.x;
        rains = m.rains;
        where = m.where;
        for (int p = 0; p < people; p++) {
            boolean since = p >= m.people;
            at[p] = since ? home[p] : m.at[p];
            cloud[p] = since ? brought[p] : m.cloud[p];
            work[p] = since ? 0 : m.work[p];
        }
        return steps.size();
    }

    int law(int which, int without, int most, int field, int person, int both) {
        long value = laws[which] == null || !ruled ? without : laws[which].value(this, field, person, both);
        return (int) Math.max(0, Math.min(most, value));
    }

    int sweat(int p) {
        return Math.min(999 - cloud[p], law(0, work[p], 99, at[p], p, 0));
    }

    int passHour() {
        int before = rains.size();
        for (int p = 0; p < people; p++) {
            int sweat = sweat(p);
            cloud[p] += sweat;
            sweated += sweat;
            sweats[p] = sweat;
        }
        for (int p = 0; p < people; p++) {
            if (cloud[p] >= full[p]) {
                int rain = law(1, cloud[p], cloud[p], at[p], p, 0);
                int taxed = rain * (tax >= 0 ? tax : law(2, 0, 10, at[p], p, 0)) / 10;
                cistern += taxed;
                wet[at[p]] += rain - taxed;
                cloud[p] -= rain;
                rains.add(new int[] {p, hour, at[p], rain});
            }
        }
        for (int f = 0; f < fields; f++) {
            grown[f] += wet[f] >= needs[f] && wet[f] < drowns[f] ? 1 : 0;
            flooded[f] += wet[f] >= drowns[f] ? 1 : 0;
            heights[f] = wet[f];
            int dries = law(3, heat[f], wet[f], f, -1, 0);
            wet[f] -= dries;
            dried += dries;
        }
        where.add(Arrays.copyOf(at, people));
        hour++;
        return rains.size() - before;
    }

    boolean meets(int one, int other) {
        return one != other && at[one] == at[other];
    }

    void shake(int one, int other) {
        int both = cloud[one] + cloud[other];
        int share = law(4, both / 2, both, at[one], one, both);
        while (share > 999) {
            share--;
        }
        while (both - share > 999) {
            share++;
        }
        cloud[one] = share;
        cloud[other] = both - share;
    }

    boolean canSteal(int thief, int from, int drops) {
        return meets(thief, from) && drops > 0 && drops < 100 && drops <= cloud[from] && cloud[thief] + drops <= 999;
    }

    void steal(int thief, int from, int drops) {
        cloud[thief] += drops;
        cloud[from] -= drops;
    }

    int year(int seed, int n) {
        int rained = 0;
        x = seed * 2 + 37;
        for (int i = 0; i < n; i++) {
            int p = x % people;
            x = (x * 233 + 131) % 30187;
            if (x % 6 == 0) {
                work[p] = x % 10;
            } else if (x % 6 == 1 && road[at[p]][x % fields]) {
                at[p] = x % fields;
            } else if (x % 6 == 2 && meets(p, x % people)) {
                shake(p, x % people);
            } else if (x % 6 == 3) {
                int drops = Math.min(x % 9 + 1, cloud[x % people]);
                if (canSteal(p, x % people, drops)) {
                    steal(p, x % people, drops);
                }
            } else if (x % 6 > 3 && hour < 999) {
                rained += passHour();
            }
            x = (x * 233 + 131) % 30187;
        }
        return rained;
    }

    String seen() {
        StringBuilder seen = new StringBuilder();
        seen.append(fields).append(' ').append(people).append(' ').append(hour).append(' ').append(cistern).append(' ');
        seen.append(sweated).append(' ').append(dried).append(' ').append(x).append(' ');
        seen.append(ruled ? 0 : -1).append(' ').append(steps.size()).append(' ');
        for (int f = 0; f < fields; f++) {
            seen.append(wet[f]).append(' ').append(grown[f]).append(' ').append(flooded[f]).append(' ');
        }
        for (int p = 0; p < people; p++) {
            seen.append(at[p]).append(' ').append(cloud[p]).append(' ').append(work[p]).append(' ').append(sweat(p)).append(' ');
            for (int h = 0; h <= hour + 1; h++) {
                boolean kept = h < hour && h >= hour - 20 && where.get(h).length > p;
                seen.append(kept ? where.get(h)[p] : -1).append(' ');
            }
        }
        for (int i = Math.max(0, rains.size() - 40); i < rains.size(); i++) {
            for (int part : rains.get(i)) {
                seen.append(part).append(' ');
            }
        }
        return seen.toString();
    }
}
