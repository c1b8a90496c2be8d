/**
 * People with clouds of their own, the fields they rain on, the laws they sweat by,
 * and all that can be told, foretold, planned and taken back of them.
 */
public final class OwnRain {
    public static final int NONE = -1;

    /** What is answered for others where NONE is an answer of its own. */
    private static final int OTHERS = -2;

    private static final int FIELDS = 6;
    private static final int PEOPLE = 8;
    private static final int MOST_HEAT = 9;
    private static final int MOST_FULL = 99;
    private static final int MOST_AGE = 99;
    private static final int OLD_ABOVE = 59;
    private static final int MOST_WORK = 9;
    private static final int MOST_WATER = 999;
    private static final int MOST_SWEAT = 99;
    private static final int MOST_STOLEN = 99;
    private static final int TENTHS = 10;
    private static final int LAST_HOUR = 999;
    private static final int HOURS_AT_ONCE = 30;
    private static final int RAINS_KEPT = 40;
    private static final int HOURS_KEPT = 20;
    private static final int STEPS_KEPT = 30;
    private static final int PLAN_HOURS = 5;
    private static final int PLAN_WORK = 3;
    private static final int FILLING_HOURS = 15;
    private static final int MOST_GOT = 99;
    private static final int MISSING_KEPT = 6;
    private static final int FORECASTS_KEPT = 12;
    private static final int MOST_FORECAST = 9;
    private static final int MOST_BOUND = 10;
    private static final int OFFERS_KEPT = 10;
    private static final int MOST_PRICE = 99;
    private static final int MOST_DROPS = 99;
    private static final int WHERE_FROM = 10;

    private static final int FIRST_X = 37;
    private static final int MOST_SEED = 9999;

    private static final int TEXTS = 4;
    private static final int TAPE = 300;
    private static final int FED = 20;
    private static final int CLAUSES = 24;
    private static final int PARTS = 3;
    private static final int LAWS = 5;
    private static final int OPEN_AT_ONCE = 8;
    private static final int MOST_NUMBER = 9999;
    private static final int MOST_VALUE = 1000000;

    /** The words that TEXTS know; each one's place here is its TOKEN below. */
    private static final String WORDS = "sweat rain tax dries share field road one work go shake steal pour hour needs drowns on by to from sum count end or and not age who full cloud old here heat wet both ";
    private static final int SWEAT = 0;
    private static final int RAIN = 1;
    private static final int TAX = 2;
    private static final int DRIES = 3;
    private static final int SHARE = 4;
    private static final int FIELD = 5;
    private static final int ROAD = 6;
    private static final int ONE = 7;
    private static final int WORK = 8;
    private static final int GO = 9;
    private static final int SHAKE = 10;
    private static final int STEAL = 11;
    private static final int POUR = 12;
    private static final int HOUR = 13;
    private static final int NEEDS = 14;
    private static final int DROWNS = 15;
    private static final int ON = 16;
    private static final int BY = 17;
    private static final int TO = 18;
    private static final int FROM = 19;
    private static final int SUM = 20;
    private static final int COUNT = 21;
    private static final int END = 22;
    private static final int OR = 23;
    private static final int AND = 24;
    private static final int NOT = 25;
    private static final int AGE = 26;
    private static final int WHO = 27;
    private static final int FULL = 28;
    private static final int CLOUD = 29;
    private static final int OLD = 30;
    private static final int HERE = 31;
    private static final int HEAT = 32;
    private static final int WET = 33;
    private static final int BOTH = 34;

    /** The signs of one byte; each one's place here, from FIRST_SIGN on, is its TOKEN below. */
    private static final String SIGNS = "+-*/<>=#();";
    private static final int FIRST_SIGN = 40;
    private static final int PLUS = 40;
    private static final int MINUS = 41;
    private static final int TIMES = 42;
    private static final int OVER = 43;
    private static final int LESS = 44;
    private static final int MORE = 45;
    private static final int LIKE = 46;
    private static final int UNLIKE = 47;
    private static final int OPEN = 48;
    private static final int CLOSE = 49;
    private static final int STOP = 50;
    private static final int AT_MOST = 51;
    private static final int AT_LEAST = 52;
    private static final int NUMBER = 53;
    private static final int TEXT_END = 54;
    private static final int NO_TOKEN = 55;

    // What code has beside the TOKENS that it takes over.
    private static final int NAMED = 60;
    private static final int NEGATED = 61;
    private static final int TOGETHER = 62;

    /**
     * The CLAUSES that are done by hand, from FIELD to HOUR: of each of their NUMBERS the word
     * ahead of it (NONE: none; behind the first one: no such NUMBER), the least and the greatest.
     */
    private static final int[] SHAPES = {
        NONE, 0, 9, NEEDS, 0, 999, DROWNS, 1, 999,
        NONE, 0, 5, TO, 0, 5, NONE, 0, 0,
        NONE, 1, 99, AGE, 0, 99, ON, 0, 5,
        NONE, 0, 7, BY, 0, 9, NONE, 0, 0,
        NONE, 0, 7, TO, 0, 5, NONE, 0, 0,
        NONE, 0, 7, TO, 0, 7, NONE, 0, 0,
        NONE, 0, 7, FROM, 0, 7, BY, 1, 99,
        NONE, 1, 999, ON, 0, 5, NONE, 0, 0,
        NONE, 1, 30, NONE, 0, 0, NONE, 0, 0
    };

    private static final int CANT_STAND = 1;
    private static final int NOT_TOLD = 2;
    private static final int TOO_DEEP = 3;
    private static final int LAW_AGAIN = 4;
    private static final int NAME_NOT_THERE = 5;
    private static final int CLAUSE_TOO_MANY = 6;

    private final State now;
    private final State kept;
    private final Tape tape;
    private final Reader reader;
    private final Weather weather;
    private final Planner planner;
    private final Ways ways;

    public OwnRain() {
        now = new State();
        kept = new State();
        tape = new Tape();
        reader = new Reader(tape);
        weather = new Weather(now);
        planner = new Planner(now, weather);
        ways = new Ways(now);
    }

    public int field(int heat, int needs, int drowns) {
        Land land = now.land;
        boolean told = isWithin(heat, 0, MOST_HEAT) && isWithin(needs, 0, MOST_WATER)
                && isWithin(drowns, 1, MOST_WATER) && drowns > needs;
        if (!told || land.fields >= FIELDS) {
            return NONE;
        }
        return land.addField(heat, needs, drowns);
    }

    public boolean road(int one, int other) {
        Land land = now.land;
        if (!land.hasField(one) || !land.hasField(other) || one == other || land.hasRoad(one, other)) {
            return false;
        }
        land.addRoad(one, other);
        return true;
    }

    public int person(int full, int age, int field, int cloud) {
        Land land = now.land;
        boolean told = isWithin(full, 1, MOST_FULL) && isWithin(age, 0, MOST_AGE)
                && land.hasField(field) && isWithin(cloud, 0, MOST_WATER);
        if (!told || land.people >= PEOPLE) {
            return NONE;
        }
        int person = land.addPerson(full, age, field, cloud);
        now.world.settle(person, field, cloud);
        return person;
    }

    public int feed(int a, int b, int c, int d, int e) {
        if (tape.length + FED > TAPE) {
            return NONE;
        }
        tape.append(a);
        tape.append(b);
        tape.append(c);
        tape.append(d);
        tape.append(e);
        return tape.length;
    }

    public int end(int n) {
        if (n < 0 || n > tape.length) {
            return NONE;
        }
        tape.length = n;
        return n;
    }

    public int text() {
        if (now.textCount >= TEXTS) {
            return NONE;
        }
        Text text = reader.readTape();
        if (text == null) {
            return NONE;
        }
        return now.addText(text);
    }

    public int fault(int what) {
        if (what == 0) {
            return reader.fault;
        }
        return what == 1 ? reader.place : NONE;
    }

    public boolean by(int text) {
        if (text != NONE && !now.hasText(text)) {
            return false;
        }
        now.ruling = text;
        return true;
    }

    public int hour(int n) {
        if (!isWithin(n, 1, HOURS_AT_ONCE) || now.world.hour + n > LAST_HOUR) {
            return NONE;
        }
        int rains = 0;
        for (int i = 0; i < n; i++) {
            now.keepStep();
            rains += weather.pass(now.world);
        }
        return rains;
    }

    public boolean work(int person, int work) {
        if (!now.land.hasPerson(person) || !isWithin(work, 0, MOST_WORK) || now.world.work[person] == work) {
            return false;
        }
        now.keepStep();
        now.world.work[person] = work;
        return true;
    }

    public boolean go(int person, int field) {
        if (!now.canGo(person, field)) {
            return false;
        }
        now.keepStep();
        now.world.at[person] = field;
        return true;
    }

    public int shake(int one, int other) {
        if (!now.canMeet(one, other)) {
            return NONE;
        }
        now.keepStep();
        weather.merge(now.world, one, other);
        return now.world.cloud[one];
    }

    public int steal(int thief, int from, int drops) {
        if (!now.canTake(thief, from, drops)) {
            return NONE;
        }
        now.keepStep();
        now.world.take(thief, from, drops);
        return now.world.cloud[thief];
    }

    public int pour(int drops, int field) {
        World world = now.world;
        if (!isWithin(drops, 1, MOST_WATER) || drops > world.cistern || !now.land.hasField(field)) {
            return NONE;
        }
        now.keepStep();
        world.cistern -= drops;
        world.wet[field] += drops;
        return world.wet[field];
    }

    public int played(int text) {
        if (!now.hasText(text)) {
            return OTHERS;
        }
        Text script = now.texts[text];
        for (int i = 0; i < script.clauses; i++) {
            if (script.kinds[i] >= LAWS && !canDo(script, i)) {
                return i;
            }
        }
        return NONE;
    }

    /** Does a CLAUSE by hand; false if it can't be. */
    private boolean canDo(Text script, int clause) {
        int a = script.parts[clause * PARTS];
        int b = script.parts[clause * PARTS + 1];
        int c = script.parts[clause * PARTS + 2];
        switch (script.kinds[clause]) {
            case FIELD:
                return field(a, b, c) != NONE;
            case ROAD:
                return road(a, b);
            case ONE:
                return person(a, b, c, 0) != NONE;
            case WORK:
                return work(a, b);
            case GO:
                return go(a, b);
            case SHAKE:
                return shake(a, b) != NONE;
            case STEAL:
                return steal(a, b, c) != NONE;
            case POUR:
                return pour(a, b) != NONE;
            default:
                // Of too many HOURS those that can be pass, so they are asked for as far as 999 alone.
                int can = Math.min(a, LAST_HOUR - now.world.hour);
                hour(can);
                return can == a;
        }
    }

    public int year(int seed, int n) {
        if (!isWithin(seed, 0, MOST_SEED) || !isWithin(n, 1, HOURS_AT_ONCE) || now.land.people < 1) {
            return NONE;
        }
        now.keepStep();
        now.world.x = seed * 2 + FIRST_X;
        int rains = 0;
        for (int i = 0; i < n; i++) {
            rains += draw();
        }
        return rains;
    }

    /** One of a YEAR's draws: how often it rained in it. */
    private int draw() {
        World world = now.world;
        int people = Math.max(1, now.land.people);
        int person = world.x % people;
        world.drawAnew();
        int x = world.x;
        int other = x % people;
        int field = x % Math.max(1, now.land.fields);
        int rains = 0;
        switch (x % 6) {
            case 0:
                world.work[person] = x % 10;
                break;
            case 1:
                if (now.canGo(person, field)) {
                    world.at[person] = field;
                }
                break;
            case 2:
                if (now.canMeet(person, other)) {
                    weather.merge(world, person, other);
                }
                break;
            case 3:
                int drops = Math.min(1 + x % 9, world.cloud[other]);
                if (now.canTake(person, other, drops)) {
                    world.take(person, other, drops);
                }
                break;
            default:
                rains = world.hour < LAST_HOUR ? weather.pass(world) : 0;
                break;
        }
        world.drawAnew();
        return rains;
    }

    public int undo() {
        return now.takeBack();
    }

    public int ofField(int field, int what) {
        Land land = now.land;
        World world = now.world;
        if (!land.hasField(field)) {
            return NONE;
        }
        switch (what) {
            case 0:
                return land.heat[field];
            case 1:
                return land.needs[field];
            case 2:
                return land.drowns[field];
            case 3:
                return world.wet[field];
            case 4:
                return world.grown[field];
            case 5:
                return world.flooded[field];
            case 6:
                return world.peopleOn(field, land.people);
            case 7:
                return land.roads[field];
            default:
                return NONE;
        }
    }

    public int ofPerson(int person, int what) {
        Land land = now.land;
        World world = now.world;
        if (!land.hasPerson(person)) {
            return OTHERS;
        }
        switch (what) {
            case 0:
                return land.full[person];
            case 1:
                return land.age[person];
            case 2:
                return world.at[person];
            case 3:
                return world.cloud[person];
            case 4:
                return world.work[person];
            case 5:
                return weather.sweatOf(world, person);
            default:
                return isWithin(what, WHERE_FROM, WHERE_FROM + LAST_HOUR)
                        ? world.whereWas(person, what - WHERE_FROM) : OTHERS;
        }
    }

    public int rained(int i, int what) {
        World world = now.world;
        if (i == NONE) {
            return world.rainCount;
        }
        if (i < 0 || i >= world.rainCount) {
            return OTHERS;
        }
        switch (what) {
            case 0:
                return world.rainPerson(i);
            case 1:
                return world.rainHour(i);
            case 2:
                return world.rainField(i);
            case 3:
                return world.rainDrops(i);
            default:
                return OTHERS;
        }
    }

    public int foretoldWet(int n, int field) {
        if (!isWithin(n, 1, HOURS_AT_ONCE) || !now.land.hasField(field)) {
            return NONE;
        }
        return planner.foretell(n).wet[field];
    }

    public int foretoldCloud(int n, int person, boolean when) {
        if (!isWithin(n, 1, HOURS_AT_ONCE) || !now.land.hasPerson(person)) {
            return NONE;
        }
        return when ? planner.firstRain(n, person) : planner.foretell(n).cloud[person];
    }

    public int plan(int person, int n, int i) {
        if (!now.land.hasPerson(person) || !isWithin(n, 1, PLAN_HOURS) || !isWithin(i, NONE, n - 1)) {
            return NONE;
        }
        planner.planWork(person, n);
        if (planner.least == NONE || i == NONE) {
            return planner.least;
        }
        return planner.best[i];
    }

    public int match(int people, int fields, int person) {
        int many = Integer.bitCount(people);
        if (!isSet(people, now.land.people) || !isSet(fields, now.land.fields)
                || !isWithin(many, 1, FIELDS) || many != Integer.bitCount(fields)) {
            return NONE;
        }
        int sweat = planner.assign(people, fields);
        if (person == NONE) {
            return sweat;
        }
        return isOf(people, person) ? planner.places[person] : NONE;
    }

    public int shares(int people, int amount, int person) {
        if (!isSet(people, now.land.people) || !isWithin(amount, 0, MOST_WATER) || !isOf(people, person)) {
            return NONE;
        }
        int[] cloud = now.world.cloud;
        int all = 0;
        for (int p = 0; p < now.land.people; p++) {
            all += isOf(people, p) ? cloud[p] : 0;
        }
        if (all < 1) {
            return NONE;
        }
        int over = amount * cloud[person] % all;
        int left = amount;
        int ahead = 0;
        for (int p = 0; p < now.land.people; p++) {
            if (isOf(people, p)) {
                int overOther = amount * cloud[p] % all;
                left -= amount * cloud[p] / all;
                ahead += overOther > over || overOther == over && p < person ? 1 : 0;
            }
        }
        return amount * cloud[person] / all + (ahead < left ? 1 : 0);
    }

    public int cross(int from, int to, int thirst, int i) {
        if (!now.land.hasField(from) || !now.land.hasField(to) || !isWithin(thirst, 0, MOST_WATER)) {
            return NONE;
        }
        ways.measure(to, thirst);
        int roads = ways.left[from];
        if (i == NONE || roads == NONE) {
            return roads;
        }
        return isWithin(i, 0, roads - 1) ? ways.comeTo(from, thirst, i) : NONE;
    }

    public int widest(int from, int to) {
        if (!now.land.hasField(from) || !now.land.hasField(to)) {
            return NONE;
        }
        return ways.width(from, to);
    }

    public int missing(int person, int from, int to) {
        Lists lists = now.lists;
        if (person == NONE) {
            lists.missing = 0;
            return 0;
        }
        if (!now.land.hasPerson(person) || from < 0 || from > to || to > LAST_HOUR
                || lists.missing >= MISSING_KEPT) {
            return OTHERS;
        }
        return lists.addMissing(person, from, to);
    }

    public int near(int i) {
        if (i != NONE) {
            return isWithin(i, 0, now.lists.missing - 1) ? nearOnes(i) : OTHERS;
        }
        int suspects = (1 << now.land.people) - 1;
        for (int m = 0; m < now.lists.missing; m++) {
            suspects &= nearOnes(m);
        }
        return suspects;
    }

    private int nearOnes(int i) {
        World world = now.world;
        int person = now.lists.victim[i];
        int first = Math.max(now.lists.from[i], world.hour - HOURS_KEPT);
        int last = Math.min(now.lists.to[i], world.hour - 1);
        int near = 0;
        for (int h = first; h <= last; h++) {
            int field = world.whereWas(person, h);
            for (int p = 0; p < now.land.people; p++) {
                if (field != NONE && p != person && world.whereWas(p, h) == field) {
                    near |= 1 << p;
                }
            }
        }
        return near;
    }

    public int thieves() {
        int[] near = new int[MISSING_KEPT];
        for (int m = 0; m < now.lists.missing; m++) {
            near[m] = nearOnes(m);
        }
        int best = NONE;
        for (int set = 0; set < 1 << now.land.people; set++) {
            boolean fewer = best == NONE || Integer.bitCount(set) < Integer.bitCount(best);
            for (int m = 0; m < now.lists.missing && fewer; m++) {
                fewer = (near[m] & set) != 0;
            }
            best = fewer ? set : best;
        }
        return best;
    }

    public long filling(int person, int p, int a, int b, int n, boolean low) {
        if (!now.land.hasPerson(person) || !isWithin(p, 0, TENTHS) || !isWithin(a, 0, MOST_GOT)
                || !isWithin(b, 0, MOST_GOT) || !isWithin(n, 0, FILLING_HOURS)) {
            return NONE;
        }
        long[] ways = hotHours(p, n);
        int lacking = now.land.full[person] - now.world.cloud[person];
        long upper = 0;
        long lower = 0;
        for (int hot = 0; hot <= n; hot++) {
            upper += hot * a + (n - hot) * b >= lacking ? ways[hot] : 0;
            lower += ways[hot];
        }
        long common = commonDivisor(lower, upper);
        if (common < 1) {
            return NONE;
        }
        return (low ? lower : upper) / common;
    }

    /** By how many HOURS of n are hot: in how many of 10 to the n ways. */
    private static long[] hotHours(int p, int n) {
        long[] ways = new long[FILLING_HOURS + 1];
        ways[0] = 1;
        for (int h = 0; h < n; h++) {
            for (int hot = h + 1; hot > 0; hot--) {
                ways[hot] = ways[hot] * (TENTHS - p) + ways[hot - 1] * p;
            }
            ways[0] *= TENTHS - p;
        }
        return ways;
    }

    private static long commonDivisor(long one, long other) {
        long high = one;
        long low = other;
        // Euclid's rest halves at least every second time, so 200 are more than longs can need.
        for (int i = 0; i < 200 && low != 0; i++) {
            long rest = high % low;
            high = low;
            low = rest;
        }
        return high;
    }

    public int forecast(int forecast, boolean hot) {
        Lists lists = now.lists;
        if (forecast == NONE) {
            lists.forecasts = 0;
            return 0;
        }
        if (!isWithin(forecast, 0, MOST_FORECAST) || lists.forecasts >= FORECASTS_KEPT) {
            return OTHERS;
        }
        return lists.addForecast(forecast, hot);
    }

    public int errors(int t, boolean misses) {
        if (!isWithin(t, 0, MOST_BOUND)) {
            return NONE;
        }
        return misses ? now.lists.misses(t) : now.lists.falseAlarms(t);
    }

    public int bound() {
        Lists lists = now.lists;
        int best = 0;
        for (int t = 1; t <= MOST_BOUND; t++) {
            if (lists.misses(t) + lists.falseAlarms(t) < lists.misses(best) + lists.falseAlarms(best)) {
                best = t;
            }
        }
        return best;
    }

    public int offer(boolean buys, int price, int drops) {
        Lists lists = now.lists;
        if (drops == 0) {
            lists.offers = 0;
            return 0;
        }
        if (!isWithin(price, 0, MOST_PRICE) || !isWithin(drops, 1, MOST_DROPS) || lists.offers >= OFFERS_KEPT) {
            return NONE;
        }
        return lists.addOffer(buys, price, drops);
    }

    public int market(int price) {
        if (price != NONE) {
            return isWithin(price, 0, MOST_PRICE) ? now.lists.traded(price) : NONE;
        }
        int best = 0;
        for (int other = 1; other <= MOST_PRICE; other++) {
            if (now.lists.traded(other) > now.lists.traded(best)) {
                best = other;
            }
        }
        return best;
    }

    public int greatestTax(int n) {
        return isWithin(n, 1, HOURS_AT_ONCE) ? planner.harmlessTax(n) : NONE;
    }

    public int water() {
        World world = now.world;
        int water = world.cistern + world.dried - world.sweated;
        for (int p = 0; p < now.land.people; p++) {
            water += world.cloud[p];
        }
        for (int f = 0; f < now.land.fields; f++) {
            water += world.wet[f];
        }
        return water;
    }

    public int image() {
        kept.copyFrom(now);
        return now.world.hour;
    }

    public int back() {
        now.copyFrom(kept);
        return now.world.hour;
    }

    public int about(int what) {
        World world = now.world;
        switch (what) {
            case 0:
                return now.land.fields;
            case 1:
                return now.land.people;
            case 2:
                return world.hour;
            case 3:
                return world.cistern;
            case 4:
                return world.sweated;
            case 5:
                return world.dried;
            case 6:
                return world.x;
            case 7:
                return now.textCount;
            case 8:
                return now.ruling;
            case 9:
                return now.steps.count;
            case 10:
                return now.lists.missing;
            case 11:
                return now.lists.forecasts;
            case 12:
                return now.lists.offers;
            case 13:
                return tape.length;
            default:
                return OTHERS;
        }
    }

    private static boolean isWithin(int value, int least, int most) {
        return value >= least && value <= most;
    }

    private static int bring(int value, int least, int most) {
        return Math.max(least, Math.min(value, most));
    }

    /** Whether bits tell of none beyond the first so many. */
    private static boolean isSet(int bits, int many) {
        return (bits & -(1 << many)) == 0;
    }

    /** Whether number, which may be anything, is of a set of a few bits. */
    private static boolean isOf(int bits, int number) {
        return isWithin(number, 0, PEOPLE - 1) && (bits >> number & 1) == 1;
    }

    /** What is told once and never changed by STEPS: FIELDS, ROADS and PEOPLE as they were told. */
    private static final class Land {
        int fields;
        int people;
        final int[] heat = new int[FIELDS];
        final int[] needs = new int[FIELDS];
        final int[] drowns = new int[FIELDS];
        final int[] roads = new int[FIELDS];
        final int[] full = new int[PEOPLE];
        final int[] age = new int[PEOPLE];
        final int[] home = new int[PEOPLE];
        final int[] brought = new int[PEOPLE];

        boolean hasField(int field) {
            return field >= 0 && field < fields;
        }

        boolean hasPerson(int person) {
            return person >= 0 && person < people;
        }

        boolean hasRoad(int one, int other) {
            return (roads[one] >> other & 1) == 1;
        }

        int addField(int itsHeat, int itsNeeds, int itsDrowns) {
            heat[fields] = itsHeat;
            needs[fields] = itsNeeds;
            drowns[fields] = itsDrowns;
            return fields++;
        }

        void addRoad(int one, int other) {
            roads[one] |= 1 << other;
            roads[other] |= 1 << one;
        }

        int addPerson(int itsFull, int itsAge, int field, int cloud) {
            full[people] = itsFull;
            age[people] = itsAge;
            home[people] = field;
            brought[people] = cloud;
            return people++;
        }

        void copyFrom(Land other) {
            fields = other.fields;
            people = other.people;
            System.arraycopy(other.heat, 0, heat, 0, FIELDS);
            System.arraycopy(other.needs, 0, needs, 0, FIELDS);
            System.arraycopy(other.drowns, 0, drowns, 0, FIELDS);
            System.arraycopy(other.roads, 0, roads, 0, FIELDS);
            System.arraycopy(other.full, 0, full, 0, PEOPLE);
            System.arraycopy(other.age, 0, age, 0, PEOPLE);
            System.arraycopy(other.home, 0, home, 0, PEOPLE);
            System.arraycopy(other.brought, 0, brought, 0, PEOPLE);
        }
    }

    /** All that STEPS change, and so all that taking them back restores. */
    private static final class World {
        /** Where somebody was in an HOUR takes three bits; no FIELD has this number. */
        private static final int NOWHERE = 7;

        final int[] wet = new int[FIELDS];
        final int[] grown = new int[FIELDS];
        final int[] flooded = new int[FIELDS];
        final int[] cloud = new int[PEOPLE];
        final int[] work = new int[PEOPLE];
        final int[] at = new int[PEOPLE];
        int cistern;
        int sweated;
        int dried;
        int hour;
        int x = FIRST_X;
        int rainCount;
        // A rain and an HOUR's places take one int each, as every STEP that is kept has them all.
        private int rainNext;
        private final int[] rains = new int[RAINS_KEPT];
        private final int[] where = new int[HOURS_KEPT];

        void copyFrom(World other) {
            System.arraycopy(other.wet, 0, wet, 0, FIELDS);
            System.arraycopy(other.grown, 0, grown, 0, FIELDS);
            System.arraycopy(other.flooded, 0, flooded, 0, FIELDS);
            System.arraycopy(other.cloud, 0, cloud, 0, PEOPLE);
            System.arraycopy(other.work, 0, work, 0, PEOPLE);
            System.arraycopy(other.at, 0, at, 0, PEOPLE);
            cistern = other.cistern;
            sweated = other.sweated;
            dried = other.dried;
            hour = other.hour;
            x = other.x;
            rainCount = other.rainCount;
            rainNext = other.rainNext;
            System.arraycopy(other.rains, 0, rains, 0, RAINS_KEPT);
            System.arraycopy(other.where, 0, where, 0, HOURS_KEPT);
        }

        void settle(int person, int field, int drops) {
            at[person] = field;
            cloud[person] = drops;
            work[person] = 0;
        }

        void take(int thief, int from, int drops) {
            cloud[from] -= drops;
            cloud[thief] += drops;
        }

        void drawAnew() {
            x = (x * 233 + 131) % 30187;
        }

        int peopleOn(int field, int people) {
            int bits = 0;
            for (int p = 0; p < people; p++) {
                bits |= at[p] == field ? 1 << p : 0;
            }
            return bits;
        }

        void writeRain(int person, int field, int drops) {
            rains[rainNext] = ((hour * PEOPLE + person) * FIELDS + field) * (MOST_WATER + 1) + drops;
            rainNext = (rainNext + 1) % RAINS_KEPT;
            rainCount = Math.min(rainCount + 1, RAINS_KEPT);
        }

        private int rain(int i) {
            return rains[(rainNext + RAINS_KEPT - rainCount + i) % RAINS_KEPT];
        }

        int rainDrops(int i) {
            return rain(i) % (MOST_WATER + 1);
        }

        int rainField(int i) {
            return rain(i) / (MOST_WATER + 1) % FIELDS;
        }

        int rainPerson(int i) {
            return rain(i) / (MOST_WATER + 1) / FIELDS % PEOPLE;
        }

        int rainHour(int i) {
            return rain(i) / (MOST_WATER + 1) / FIELDS / PEOPLE;
        }

        void writeWhere(int people) {
            int places = 0;
            for (int p = 0; p < PEOPLE; p++) {
                places |= (p < people ? at[p] : NOWHERE) << 3 * p;
            }
            where[hour % HOURS_KEPT] = places;
        }

        int whereWas(int person, int then) {
            if (then < 0 || then >= hour || then < hour - HOURS_KEPT) {
                return NONE;
            }
            int place = where[then % HOURS_KEPT] >> 3 * person & NOWHERE;
            return place == NOWHERE ? NONE : place;
        }
    }

    /** The STEPS that can be taken back: the WORLD ahead of each, and how many PEOPLE had been told. */
    private static final class Steps {
        int count;
        private int next;
        private final World[] worlds = new World[STEPS_KEPT];
        private final int[] people = new int[STEPS_KEPT];

        Steps() {
            for (int i = 0; i < STEPS_KEPT; i++) {
                worlds[i] = new World();
            }
        }

        void keep(World world, int told) {
            worlds[next].copyFrom(world);
            people[next] = told;
            next = (next + 1) % STEPS_KEPT;
            count = Math.min(count + 1, STEPS_KEPT);
        }

        /** Makes world what it was ahead of the latest STEP; how many PEOPLE had been told then. */
        int takeBack(World world) {
            next = (next + STEPS_KEPT - 1) % STEPS_KEPT;
            count--;
            world.copyFrom(worlds[next]);
            return people[next];
        }

        void copyFrom(Steps other) {
            count = other.count;
            next = other.next;
            for (int i = 0; i < STEPS_KEPT; i++) {
                worlds[i].copyFrom(other.worlds[i]);
                people[i] = other.people[i];
            }
        }
    }

    /** What is MISSING, the FORECASTS and the OFFERS. */
    private static final class Lists {
        int missing;
        int forecasts;
        int offers;
        final int[] victim = new int[MISSING_KEPT];
        final int[] from = new int[MISSING_KEPT];
        final int[] to = new int[MISSING_KEPT];
        private final int[] foretold = new int[FORECASTS_KEPT];
        private final boolean[] hot = new boolean[FORECASTS_KEPT];
        private final boolean[] buys = new boolean[OFFERS_KEPT];
        private final int[] price = new int[OFFERS_KEPT];
        private final int[] drops = new int[OFFERS_KEPT];

        int addMissing(int person, int first, int last) {
            victim[missing] = person;
            from[missing] = first;
            to[missing] = last;
            return ++missing;
        }

        int addForecast(int value, boolean wasHot) {
            foretold[forecasts] = value;
            hot[forecasts] = wasHot;
            return ++forecasts;
        }

        int addOffer(boolean isBuyer, int itsPrice, int itsDrops) {
            buys[offers] = isBuyer;
            price[offers] = itsPrice;
            drops[offers] = itsDrops;
            return ++offers;
        }

        int misses(int t) {
            int misses = 0;
            for (int i = 0; i < forecasts; i++) {
                misses += hot[i] && foretold[i] < t ? 1 : 0;
            }
            return misses;
        }

        int falseAlarms(int t) {
            int alarms = 0;
            for (int i = 0; i < forecasts; i++) {
                alarms += !hot[i] && foretold[i] >= t ? 1 : 0;
            }
            return alarms;
        }

        int traded(int at) {
            int bought = 0;
            int sold = 0;
            for (int i = 0; i < offers; i++) {
                bought += buys[i] && at <= price[i] ? drops[i] : 0;
                sold += !buys[i] && at >= price[i] ? drops[i] : 0;
            }
            return Math.min(bought, sold);
        }

        void copyFrom(Lists other) {
            missing = other.missing;
            forecasts = other.forecasts;
            offers = other.offers;
            System.arraycopy(other.victim, 0, victim, 0, MISSING_KEPT);
            System.arraycopy(other.from, 0, from, 0, MISSING_KEPT);
            System.arraycopy(other.to, 0, to, 0, MISSING_KEPT);
            System.arraycopy(other.foretold, 0, foretold, 0, FORECASTS_KEPT);
            for (int i = 0; i < FORECASTS_KEPT; i++) {
                hot[i] = other.hot[i];
            }
            for (int i = 0; i < OFFERS_KEPT; i++) {
                buys[i] = other.buys[i];
            }
            System.arraycopy(other.price, 0, price, 0, OFFERS_KEPT);
            System.arraycopy(other.drops, 0, drops, 0, OFFERS_KEPT);
        }
    }

    /** All that an IMAGE keeps. */
    private static final class State {
        final Land land = new Land();
        final World world = new World();
        final Steps steps = new Steps();
        final Lists lists = new Lists();
        final Text[] texts = new Text[TEXTS];
        int textCount;
        int ruling = NONE;

        boolean hasText(int text) {
            return text >= 0 && text < textCount && texts[text] != null;
        }

        int addText(Text text) {
            texts[textCount] = text;
            return textCount++;
        }

        /** THE TEXT, or null. */
        Text rules() {
            return hasText(ruling) ? texts[ruling] : null;
        }

        boolean canGo(int person, int field) {
            return land.hasPerson(person) && land.hasField(field) && land.hasRoad(world.at[person], field);
        }

        boolean canMeet(int one, int other) {
            return land.hasPerson(one) && land.hasPerson(other) && one != other
                    && world.at[one] == world.at[other];
        }

        boolean canTake(int thief, int from, int drops) {
            return canMeet(thief, from) && isWithin(drops, 1, MOST_STOLEN)
                    && drops <= world.cloud[from] && world.cloud[thief] + drops <= MOST_WATER;
        }

        void keepStep() {
            steps.keep(world, land.people);
        }

        /** How many STEPS can be taken back yet; NONE if this one couldn't. */
        int takeBack() {
            if (steps.count < 1) {
                return NONE;
            }
            int told = steps.takeBack(world);
            for (int p = told; p < land.people; p++) {
                world.settle(p, land.home[p], land.brought[p]);
            }
            return steps.count;
        }

        void copyFrom(State other) {
            land.copyFrom(other.land);
            world.copyFrom(other.world);
            steps.copyFrom(other.steps);
            lists.copyFrom(other.lists);
            for (int i = 0; i < TEXTS; i++) {
                texts[i] = other.texts[i];
            }
            textCount = other.textCount;
            ruling = other.ruling;
        }
    }

    /**
     * A TEXT that has been read. Laws are code: operands ahead of what joins them. The code of a
     * sum or count stands within that of what it is in, behind a TOGETHER that has its number;
     * an outer one has a lower number than those in it.
     */
    private static final class Text {
        int clauses;
        final int[] kinds = new int[CLAUSES];
        final int[] parts = new int[CLAUSES * PARTS];
        final int[] code = new int[TAPE];
        final int[] operand = new int[TAPE];
        int codeLength;
        final int[] groupFrom = new int[TAPE];
        final int[] groupTo = new int[TAPE];
        int groups;
        final int[] lawFrom = new int[LAWS];
        final int[] lawTo = new int[LAWS];
        final int[] lawGroupsFrom = new int[LAWS];
        final int[] lawGroupsTo = new int[LAWS];

        boolean hasLaw(int law) {
            return lawTo[law] > lawFrom[law];
        }

        void write(int what, int with) {
            if (codeLength < TAPE) {
                code[codeLength] = what;
                operand[codeLength] = with;
                codeLength++;
            }
        }
    }

    /** The tape, and the TOKENS on it. */
    private static final class Tape {
        int length;
        /** How many TOKENS were found, the end being the last one. */
        int tokens;
        final int[] token = new int[TAPE + 1];
        final int[] number = new int[TAPE + 1];
        final int[] place = new int[TAPE + 1];
        private final int[] bytes = new int[TAPE];

        /** Four bytes, the highest first. */
        void append(int four) {
            for (int shift = 24; shift >= 0 && length < TAPE; shift -= 8) {
                bytes[length] = four >> shift & 255;
                length++;
            }
        }

        void findTokens() {
            tokens = 0;
            int at = 0;
            for (int i = 0; i < TAPE && at < length; i++) {
                if (isLetter(bytes[at])) {
                    at = addWord(at);
                } else if (isDigit(bytes[at])) {
                    at = addNumber(at);
                } else if (bytes[at] == ' ' || bytes[at] == '\n') {
                    at++;
                } else {
                    at = addSign(at);
                }
            }
            addToken(TEXT_END, length);
        }

        private void addToken(int what, int at) {
            if (tokens <= TAPE) {
                token[tokens] = what;
                place[tokens] = at;
                number[tokens] = 0;
                tokens++;
            }
        }

        // Each of these tells where what it adds has ended.

        private int addWord(int from) {
            int to = from;
            while (to < length && isLetter(bytes[to])) {
                to++;
            }
            addToken(wordOf(from, to), from);
            return to;
        }

        private int addNumber(int from) {
            int value = 0;
            int to = from;
            while (to < length && isDigit(bytes[to])) {
                // One above what is a NUMBER is enough to know that it is none.
                value = Math.min(value * 10 + bytes[to] - '0', MOST_NUMBER + 1);
                to++;
            }
            addToken(NUMBER, from);
            number[tokens - 1] = value;
            return to;
        }

        private int addSign(int from) {
            int sign = SIGNS.indexOf((char) bytes[from]);
            int what = sign < 0 ? NO_TOKEN : FIRST_SIGN + sign;
            boolean orLike = from + 1 < length && bytes[from + 1] == '=' && (what == LESS || what == MORE);
            if (orLike) {
                what = what == LESS ? AT_MOST : AT_LEAST;
            }
            addToken(what, from);
            return orLike ? from + 2 : from + 1;
        }

        private int wordOf(int from, int to) {
            int word = 0;
            int at = from;
            boolean same = true;
            for (int i = 0; i < WORDS.length(); i++) {
                char sign = WORDS.charAt(i);
                if (sign != ' ') {
                    same = same && at < to && bytes[at] == sign;
                    at++;
                } else if (same && at == to) {
                    return word;
                } else {
                    word++;
                    at = from;
                    same = true;
                }
            }
            return NO_TOKEN;
        }

        private static boolean isLetter(int sign) {
            return isWithin(sign, 'a', 'z') || isWithin(sign, 'A', 'Z');
        }

        private static boolean isDigit(int sign) {
            return isWithin(sign, '0', '9');
        }
    }

    /** How a TEXT is read from the tape. */
    private static final class Reader {
        int fault = NONE;
        int place = NONE;
        private final Tape tape;
        private Text draft;
        private int law;
        private int index;
        private int token;

        Reader(Tape itsTape) {
            tape = itsTape;
        }

        /** The tape, which is empty then, as a TEXT; null if it has a FAULT. */
        Text readTape() {
            fault = 0;
            place = NONE;
            draft = new Text();
            tape.findTokens();
            index = 0;
            token = tape.token[0];
            for (int i = 0; i <= CLAUSES && fault == 0 && token != TEXT_END; i++) {
                readClause(i);
            }
            tape.length = 0;
            return fault == 0 ? draft : null;
        }

        private void advance() {
            if (index + 1 < tape.tokens) {
                index++;
            }
            token = tape.token[index];
        }

        private void fail(int why) {
            if (fault == 0) {
                fault = why;
                place = tape.place[index];
            }
        }

        private void readClause(int i) {
            int kind = token;
            if (kind > HOUR) {
                fail(CANT_STAND);
            } else if (kind < LAWS && draft.hasLaw(kind)) {
                fail(LAW_AGAIN);
            } else if (i >= CLAUSES) {
                fail(CLAUSE_TOO_MANY);
            } else {
                draft.kinds[i] = kind;
                draft.clauses = i + 1;
                advance();
                if (kind < LAWS) {
                    readLaw(kind);
                } else {
                    readParts(i, kind - FIELD);
                }
                expect(STOP);
            }
        }

        private void readLaw(int kind) {
            law = kind;
            draft.lawFrom[kind] = draft.codeLength;
            draft.lawGroupsFrom[kind] = draft.groups;
            readSum(0, kind != DRIES);
            draft.lawTo[kind] = draft.codeLength;
            draft.lawGroupsTo[kind] = draft.groups;
        }

        private void readParts(int clause, int shape) {
            for (int k = 0; k < PARTS && fault == 0; k++) {
                int at = (shape * PARTS + k) * 3;
                if (k > 0 && SHAPES[at] == NONE) {
                    break;
                }
                if (k > 0) {
                    expect(SHAPES[at]);
                }
                draft.parts[clause * PARTS + k] = tape.number[index];
                expectNumber(SHAPES[at + 1], SHAPES[at + 2]);
            }
        }

        private void expect(int what) {
            if (token != what) {
                fail(CANT_STAND);
            } else if (fault == 0) {
                advance();
            }
        }

        private void expectNumber(int least, int most) {
            if (token != NUMBER) {
                fail(CANT_STAND);
            } else if (!isWithin(tape.number[index], least, most)) {
                fail(NOT_TOLD);
            } else if (fault == 0) {
                advance();
            }
        }

        // In what follows depth is how many of ( not sum count and - are open; own: NAMES of a
        // PERSON can stand there.

        private void readEither(int depth) {
            readBoth(depth);
            for (int i = 0; i < TAPE && fault == 0 && token == OR; i++) {
                advance();
                readBoth(depth);
                draft.write(OR, 0);
            }
        }

        private void readBoth(int depth) {
            readAsk(depth);
            for (int i = 0; i < TAPE && fault == 0 && token == AND; i++) {
                advance();
                readAsk(depth);
                draft.write(AND, 0);
            }
        }

        /** An ASK is always within a count, so NAMES of a PERSON can stand in it. */
        private void readAsk(int depth) {
            if (token == NOT) {
                if (opens(depth)) {
                    readAsk(depth + 1);
                    draft.write(NOT, 0);
                }
                return;
            }
            readSum(depth, true);
            int how = token;
            if (how == LESS || how == AT_MOST || how == MORE || how == AT_LEAST || how == LIKE || how == UNLIKE) {
                expect(how);
                readSum(depth, true);
                draft.write(how, 0);
            } else {
                fail(CANT_STAND);
            }
        }

        private void readSum(int depth, boolean own) {
            readProduct(depth, own);
            for (int i = 0; i < TAPE && fault == 0 && (token == PLUS || token == MINUS); i++) {
                int how = token;
                advance();
                readProduct(depth, own);
                draft.write(how, 0);
            }
        }

        private void readProduct(int depth, boolean own) {
            readOne(depth, own);
            for (int i = 0; i < TAPE && fault == 0 && (token == TIMES || token == OVER); i++) {
                int how = token;
                advance();
                readOne(depth, own);
                draft.write(how, 0);
            }
        }

        private void readOne(int depth, boolean own) {
            if (fault != 0) {
                return;
            }
            if (token == NUMBER) {
                draft.write(NUMBER, tape.number[index]);
                expectNumber(0, MOST_NUMBER);
            } else if (isName(token)) {
                readName(own);
            } else if (token == OPEN) {
                if (opens(depth)) {
                    readSum(depth + 1, own);
                    expect(CLOSE);
                }
            } else if (token == MINUS) {
                if (opens(depth)) {
                    readOne(depth + 1, own);
                    draft.write(NEGATED, 0);
                }
            } else if (token == SUM || token == COUNT) {
                readGroup(depth);
            } else {
                fail(CANT_STAND);
            }
        }

        private void readGroup(int depth) {
            boolean counts = token == COUNT;
            int group = draft.groups;
            if (!opens(depth) || group >= TAPE) {
                return;
            }
            draft.groups++;
            draft.write(TOGETHER, group);
            draft.groupFrom[group] = draft.codeLength;
            if (counts) {
                readEither(depth + 1);
            } else {
                readSum(depth + 1, true);
            }
            draft.groupTo[group] = draft.codeLength;
            expect(END);
        }

        private void readName(boolean own) {
            boolean stands = isOwnName(token) ? own : token != BOTH || law == SHARE;
            if (!stands) {
                fail(NAME_NOT_THERE);
                return;
            }
            draft.write(NAMED, token);
            advance();
        }

        /** Goes behind a TOKEN that is open from there on; false if too many are. */
        private boolean opens(int depth) {
            if (depth >= OPEN_AT_ONCE) {
                fail(TOO_DEEP);
            }
            if (fault != 0) {
                return false;
            }
            advance();
            return true;
        }

        private static boolean isName(int word) {
            return isOwnName(word) || word == HOUR || isWithin(word, HERE, BOTH);
        }

        private static boolean isOwnName(int word) {
            return word == WORK || isWithin(word, AGE, OLD);
        }
    }

    /** How HOURS pass and hands are shaken, by THE TEXT, in any WORLD of one LAND. */
    private static final class Weather {
        /** Far above what eight levels of SUMS within comparisons can leave waiting. */
        private static final int WAITING = 96;

        /** Instead of the law of tax; NONE: that. */
        int tax = NONE;
        /** Of the latest HOUR: what each PERSON sweated, WET ahead of drying, who rained (bits). */
        final int[] sweat = new int[PEOPLE];
        final int[] wet = new int[FIELDS];
        int rainers;
        private final State state;
        private final int[] waiting = new int[WAITING];
        private final int[] groups = new int[TAPE];
        private World world;
        private int here;
        private int both;

        Weather(State ofAll) {
            state = ofAll;
        }

        /** An HOUR: how often it rained in it. */
        int pass(World in) {
            Land land = state.land;
            for (int p = 0; p < land.people; p++) {
                sweat[p] = sweatOf(in, p);
                in.cloud[p] += sweat[p];
                in.sweated += sweat[p];
            }
            rainers = 0;
            for (int p = 0; p < land.people; p++) {
                if (in.cloud[p] >= land.full[p]) {
                    rainers |= 1 << p;
                    rainFrom(in, p);
                }
            }
            for (int f = 0; f < land.fields; f++) {
                wet[f] = in.wet[f];
                closeHour(in, f);
            }
            in.writeWhere(land.people);
            in.hour++;
            return Integer.bitCount(rainers);
        }

        int sweatOf(World in, int person) {
            int value = law(SWEAT, in.work[person], in, in.at[person], person);
            return Math.min(bring(value, 0, MOST_SWEAT), MOST_WATER - in.cloud[person]);
        }

        private void rainFrom(World in, int person) {
            int field = in.at[person];
            int cloud = in.cloud[person];
            int rain = bring(law(RAIN, cloud, in, field, person), 0, cloud);
            int tenths = tax != NONE ? tax : bring(law(TAX, 0, in, field, person), 0, TENTHS);
            int taxed = rain * tenths / TENTHS;
            in.cistern += taxed;
            in.wet[field] += rain - taxed;
            in.cloud[person] -= rain;
            in.writeRain(person, field, rain);
        }

        private void closeHour(World in, int field) {
            Land land = state.land;
            int height = in.wet[field];
            if (height >= land.drowns[field]) {
                in.flooded[field]++;
            } else if (height >= land.needs[field]) {
                in.grown[field]++;
            }
            int dries = bring(law(DRIES, land.heat[field], in, field, NONE), 0, height);
            in.wet[field] -= dries;
            in.dried += dries;
        }

        /** Two who can shake hands do. */
        void merge(World in, int one, int other) {
            both = in.cloud[one] + in.cloud[other];
            int share = bring(law(SHARE, both / 2, in, in.at[one], one), 0, both);
            share = bring(share, both - MOST_WATER, MOST_WATER);
            in.cloud[one] = share;
            in.cloud[other] = both - share;
        }

        /** A law's value for a PERSON (NONE: nobody) on a FIELD; what stands for it without that law. */
        private int law(int law, int without, World in, int field, int person) {
            Text text = state.rules();
            if (text == null || !text.hasLaw(law)) {
                return without;
            }
            world = in;
            here = field;
            // A sum's value is the same for whoever asks, so each is worked out once, the inner
            // ones first: else eight of them within one another would take 8 to the 8 turns.
            for (int g = text.lawGroupsTo[law] - 1; g >= text.lawGroupsFrom[law]; g--) {
                int together = 0;
                for (int p = 0; p < state.land.people; p++) {
                    if (in.at[p] == field) {
                        together = bounded((long) together + run(text, text.groupFrom[g], text.groupTo[g], p));
                    }
                }
                groups[g] = together;
            }
            return run(text, text.lawFrom[law], text.lawTo[law], person);
        }

        private int run(Text text, int from, int to, int person) {
            int top = 0;
            for (int i = from; i < to && top < WAITING; i++) {
                int what = text.code[i];
                int with = text.operand[i];
                if (what == NUMBER) {
                    waiting[top++] = with;
                } else if (what == NAMED) {
                    waiting[top++] = named(with, person);
                } else if (what == TOGETHER) {
                    waiting[top++] = groups[with];
                    i = Math.max(i, text.groupTo[with] - 1);
                } else if (what == NEGATED && top > 0) {
                    waiting[top - 1] = -waiting[top - 1];
                } else if (what == NOT && top > 0) {
                    waiting[top - 1] = 1 - waiting[top - 1];
                } else if (top > 1) {
                    top--;
                    waiting[top - 1] = bounded(joined(what, waiting[top - 1], waiting[top]));
                }
            }
            return top > 0 ? waiting[top - 1] : 0;
        }

        private static int bounded(long value) {
            if (value > MOST_VALUE) {
                return MOST_VALUE;
            }
            return value < -MOST_VALUE ? -MOST_VALUE : (int) value;
        }

        private static long joined(int how, long left, long right) {
            switch (how) {
                case PLUS:
                    return left + right;
                case MINUS:
                    return left - right;
                case TIMES:
                    return left * right;
                case OVER:
                    return right == 0 ? 0 : left / right;
                case LESS:
                    return left < right ? 1 : 0;
                case AT_MOST:
                    return left <= right ? 1 : 0;
                case MORE:
                    return left > right ? 1 : 0;
                case AT_LEAST:
                    return left >= right ? 1 : 0;
                case LIKE:
                    return left == right ? 1 : 0;
                case UNLIKE:
                    return left != right ? 1 : 0;
                case AND:
                    return left & right;
                default:
                    return left | right;
            }
        }

        private int named(int name, int asked) {
            // Where there is nobody no NAME of a PERSON stands, so it doesn't matter whose it would be.
            int person = asked == NONE ? 0 : asked;
            switch (name) {
                case HERE:
                    return here;
                case HEAT:
                    return state.land.heat[here];
                case WET:
                    return world.wet[here];
                case HOUR:
                    return world.hour;
                case BOTH:
                    return both;
                case WHO:
                    return person;
                case AGE:
                    return state.land.age[person];
                case FULL:
                    return state.land.full[person];
                case CLOUD:
                    return world.cloud[person];
                case WORK:
                    return world.work[person];
                default:
                    return state.land.age[person] > OLD_ABOVE ? 1 : 0;
            }
        }
    }

    /** What would be: FORETOLD, A PLAN, WHO WORKS WHERE, THE GREATEST TAX. All in WORLDS of its own. */
    private static final class Planner {
        /** What is sweated by the best PLAN; NONE without. */
        int least;
        final int[] best = new int[PLAN_HOURS];
        private final State state;
        private final Weather weather;
        private final World[] worlds = new World[PLAN_HOURS + 1];
        private final int[] tried = new int[PLAN_HOURS];
        private final int[] grown = new int[FIELDS];
        /** Where each of those who were assigned works. */
        final int[] places = new int[PEOPLE];
        /** By PERSON and FIELD: what it would sweat there. */
        private final int[] sweats = new int[PEOPLE * FIELDS];
        /** By the set of FIELDS that are taken: the most that those who have none yet can sweat. */
        private final int[] most = new int[1 << FIELDS];

        Planner(State ofAll, Weather itsWeather) {
            state = ofAll;
            weather = itsWeather;
            for (int i = 0; i <= PLAN_HOURS; i++) {
                worlds[i] = new World();
            }
        }

        private World freshWorld() {
            worlds[0].copyFrom(state.world);
            return worlds[0];
        }

        World foretell(int hours) {
            World world = freshWorld();
            for (int i = 0; i < hours; i++) {
                weather.pass(world);
            }
            return world;
        }

        int firstRain(int hours, int person) {
            World world = freshWorld();
            for (int i = 1; i <= hours; i++) {
                weather.pass(world);
                if (isOf(weather.rainers, person)) {
                    return i;
                }
            }
            return NONE;
        }

        void planWork(int person, int hours) {
            freshWorld();
            least = NONE;
            tryWork(person, hours, 0, 0, false);
        }

        /** By ascending WORK, so that of like PLANS the first that is found is the one. */
        private void tryWork(int person, int hours, int depth, int sweated, boolean wet) {
            if (depth >= hours || depth >= PLAN_HOURS) {
                if (wet) {
                    least = sweated;
                    System.arraycopy(tried, 0, best, 0, PLAN_HOURS);
                }
                return;
            }
            World world = worlds[depth + 1];
            int field = state.world.at[person];
            for (int work = 0; work <= PLAN_WORK; work++) {
                world.copyFrom(worlds[depth]);
                world.work[person] = work;
                weather.pass(world);
                tried[depth] = work;
                int sweat = sweated + weather.sweat[person];
                int height = weather.wet[field];
                if (height < state.land.drowns[field] && (least == NONE || sweat < least)) {
                    tryWork(person, hours, depth + 1, sweat, wet || height >= state.land.needs[field]);
                }
            }
        }

        int harmlessTax(int hours) {
            weather.tax = 0;
            System.arraycopy(foretell(hours).grown, 0, grown, 0, FIELDS);
            int greatest = 0;
            for (int tax = TENTHS; tax > 0 && greatest == 0; tax--) {
                weather.tax = tax;
                greatest = growsAsMuch(foretell(hours)) ? tax : 0;
            }
            weather.tax = NONE;
            return greatest;
        }

        private boolean growsAsMuch(World world) {
            for (int f = 0; f < state.land.fields; f++) {
                if (world.grown[f] < grown[f]) {
                    return false;
                }
            }
            return true;
        }

        /** WHO WORKS WHERE: how much is sweated; places has where. */
        int assign(int people, int fields) {
            for (int p = 0; p < PEOPLE; p++) {
                for (int f = 0; f < FIELDS; f++) {
                    sweats[p * FIELDS + f] = isOf(people, p) && isOf(fields, f) ? sweatAt(p, f) : 0;
                }
            }
            // Downwards, as each set asks for those with one FIELD more.
            for (int taken = most.length - 1; taken >= 0; taken--) {
                most[taken] = mostBeyond(people, fields, taken);
            }
            int taken = 0;
            for (int p = 0; p < PEOPLE; p++) {
                places[p] = isOf(people, p) ? lowestPlace(p, fields, taken) : NONE;
                taken |= places[p] == NONE ? 0 : 1 << places[p];
            }
            return most[0];
        }

        private int sweatAt(int person, int field) {
            World world = freshWorld();
            for (int p = 0; p < PEOPLE; p++) {
                world.at[p] = NONE;
            }
            world.at[person] = field;
            world.work[person] = MOST_WORK;
            return weather.sweatOf(world, person);
        }

        private int mostBeyond(int people, int fields, int taken) {
            int person = nextOf(people, Integer.bitCount(taken));
            int found = 0;
            for (int f = 0; f < FIELDS && person != NONE; f++) {
                if (isOf(fields & ~taken, f)) {
                    found = Math.max(found, sweats[person * FIELDS + f] + most[taken | 1 << f]);
                }
            }
            return found;
        }

        /** The PERSON of a set with so many of it below; NONE without. */
        private static int nextOf(int people, int below) {
            int passed = 0;
            for (int p = 0; p < PEOPLE; p++) {
                if (isOf(people, p)) {
                    if (passed == below) {
                        return p;
                    }
                    passed++;
                }
            }
            return NONE;
        }

        private int lowestPlace(int person, int fields, int taken) {
            for (int f = 0; f < FIELDS; f++) {
                if (isOf(fields & ~taken, f)
                        && sweats[person * FIELDS + f] + most[taken | 1 << f] == most[taken]) {
                    return f;
                }
            }
            return NONE;
        }
    }

    /** CROSSING, and the WIDEST way. */
    private static final class Ways {
        /** By how many ROADS one can come from each FIELD to where it was measured; NONE: it can't be. */
        final int[] left = new int[FIELDS];
        private final int[] wide = new int[FIELDS];
        private final State state;

        Ways(State ofAll) {
            state = ofAll;
        }

        void measure(int to, int thirst) {
            int fields = state.land.fields;
            for (int f = 0; f < FIELDS; f++) {
                left[f] = f == to ? 0 : NONE;
            }
            for (int roads = 1; roads < fields; roads++) {
                for (int f = 0; f < fields; f++) {
                    if (left[f] == NONE && nextField(f, thirst, roads - 1) != NONE) {
                        left[f] = roads;
                    }
                }
            }
        }

        /** The lowest FIELD that one can come to from another, so many ROADS being left there. */
        private int nextField(int field, int thirst, int roads) {
            for (int f = 0; f < state.land.fields; f++) {
                if (left[f] == roads && state.land.hasRoad(field, f) && state.world.wet[f] >= thirst) {
                    return f;
                }
            }
            return NONE;
        }

        /** The i-th FIELD come to; what is asked for has been measured, and there is a way. */
        int comeTo(int from, int thirst, int i) {
            int field = from;
            for (int k = 0; k <= i && field != NONE; k++) {
                field = nextField(field, thirst, left[from] - 1 - k);
            }
            return field;
        }

        int width(int from, int to) {
            int fields = state.land.fields;
            for (int f = 0; f < FIELDS; f++) {
                wide[f] = f == from ? MOST_WATER : NONE;
            }
            for (int round = 1; round < fields; round++) {
                for (int one = 0; one < fields; one++) {
                    widen(one);
                }
            }
            return wide[to];
        }

        private void widen(int from) {
            for (int f = 0; f < state.land.fields; f++) {
                if (state.land.hasRoad(from, f)) {
                    wide[f] = Math.max(wide[f], Math.min(wide[from], state.world.wet[f]));
                }
            }
        }
    }
}
