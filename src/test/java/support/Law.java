import java.util.Random;

/** A law, or a part of one: how it is written, and its value in a Model, as a tree that is walked anew for everybody. */
interface Law {
    int BOUND = 1000000;

    String written();

    long value(Model m, int field, int person, int both);

    /** A law that is drawn; open tells how many of ( not sum count and - can be open in it. */
    static Law drawn(Random draw, String law, int open) {
        return new Drawn(draw, law).sum(open, !law.equals("dries"));
    }

    private static Law part(String written, Value value) {
        return new Law() {
            @Override
            public String written() {
                return written;
            }

            @Override
            public long value(Model m, int field, int person, int both) {
                return Math.max(-BOUND, Math.min(BOUND, value.of(m, field, person, both)));
            }
        };
    }

    interface Value {
        long of(Model m, int field, int person, int both);
    }

    final class Drawn {
        private final Random draw;
        private final String law;

        Drawn(Random draw, String law) {
            this.draw = draw;
            this.law = law;
        }

        Law sum(int open, boolean own) {
            Law left = product(open, own);
            for (int i = draw.nextInt(3); i > 0; i--) {
                Law one = left;
                Law other = product(open, own);
                left = draw.nextBoolean()
                        ? part(one.written() + "+" + other.written(), (m, f, p, b) -> one.value(m, f, p, b) + other.value(m, f, p, b))
                        : part(one.written() + "-" + other.written(), (m, f, p, b) -> one.value(m, f, p, b) - other.value(m, f, p, b));
            }
            return left;
        }

        private Law product(int open, boolean own) {
            Law left = one(open, own);
            for (int i = draw.nextInt(5) / 3; i > 0; i--) {
                Law one = left;
                Law other = one(open, own);
                left = draw.nextBoolean()
                        ? part(one.written() + " * " + other.written(), (m, f, p, b) -> one.value(m, f, p, b) * other.value(m, f, p, b))
                        : part(one.written() + "/" + other.written(), (m, f, p, b) -> {
                            long by = other.value(m, f, p, b);
                            return by == 0 ? 0 : one.value(m, f, p, b) / by;
                        });
            }
            return left;
        }

        private Law one(int open, boolean own) {
            int what = draw.nextInt(open > 0 ? 9 : 5);
            if (what < 2) {
                int number = draw.nextInt(10) == 0 ? draw.nextInt(10000) : draw.nextInt(20);
                return part("" + number, (m, f, p, b) -> number);
            }
            if (what < 5) {
                return name(own);
            }
            if (what == 5) {
                Law in = sum(open - 1, own);
                return part("(" + in.written() + ")", in::value);
            }
            if (what == 6) {
                Law in = one(open - 1, own);
                return part("-" + in.written(), (m, f, p, b) -> -in.value(m, f, p, b));
            }
            boolean counts = what == 7;
            Law in = counts ? either(open - 1) : sum(open - 1, true);
            return part((counts ? "count " : "sum ") + in.written() + " end", (m, f, p, b) -> {
                long all = 0;
                for (int q = 0; q < m.people; q++) {
                    if (m.at[q] == f) {
                        all = Math.max(-BOUND, Math.min(BOUND, all + in.value(m, f, q, b)));
                    }
                }
                return all;
            });
        }

        private Law name(boolean own) {
            int many = (own ? 10 : 4) + (law.equals("share") ? 1 : 0);
            int name = draw.nextInt(many);
            switch (name) {
                case 0:
                    return part("here", (m, f, p, b) -> f);
                case 1:
                    return part("heat", (m, f, p, b) -> m.heat[f]);
                case 2:
                    return part("wet", (m, f, p, b) -> m.wet[f]);
                case 3:
                    return part("hour", (m, f, p, b) -> m.hour);
                case 4:
                    return part("who", (m, f, p, b) -> p);
                case 5:
                    return part("age", (m, f, p, b) -> m.age[p]);
                case 6:
                    return part("full", (m, f, p, b) -> m.full[p]);
                case 7:
                    return part("cloud", (m, f, p, b) -> m.cloud[p]);
                case 8:
                    return part("work", (m, f, p, b) -> m.work[p]);
                case 9:
                    return part("old", (m, f, p, b) -> m.age[p] > 59 ? 1 : 0);
                default:
                    return part("both", (m, f, p, b) -> b);
            }
        }

        private Law either(int open) {
            Law left = both(open);
            for (int i = draw.nextInt(5) / 4; i > 0; i--) {
                Law one = left;
                Law other = both(open);
                left = part(one.written() + " or " + other.written(),
                        (m, f, p, b) -> one.value(m, f, p, b) + other.value(m, f, p, b) > 0 ? 1 : 0);
            }
            return left;
        }

        private Law both(int open) {
            Law left = ask(open);
            for (int i = draw.nextInt(5) / 4; i > 0; i--) {
                Law one = left;
                Law other = ask(open);
                left = part(one.written() + " and " + other.written(), (m, f, p, b) -> one.value(m, f, p, b) * other.value(m, f, p, b));
            }
            return left;
        }

        private Law ask(int open) {
            if (open > 0 && draw.nextInt(4) == 0) {
                Law in = ask(open - 1);
                return part("not " + in.written(), (m, f, p, b) -> in.value(m, f, p, b) == 0 ? 1 : 0);
            }
            Law one = sum(open, true);
            Law other = sum(open, true);
            String[] signs = {"<", "<=", ">", ">=", "=", "#"};
            int sign = draw.nextInt(6);
            return part(one.written() + signs[sign] + other.written(), (m, f, p, b) -> {
                int order = Long.compare(one.value(m, f, p, b), other.value(m, f, p, b));
                boolean[] so = {order < 0, order <= 0, order > 0, order >= 0, order == 0, order != 0};
                return so[sign] ? 1 : 0;
            });
        }
    }
}
