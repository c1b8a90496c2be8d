import java.util.TreeSet;
import java.util.function.IntToLongFunction;
import java.util.function.Supplier;
import java.util.function.ToLongFunction;

/**
 * What is answered at an argument's bounds, beside them and far from them, each on an object that is
 * made anew; and that what is refused leaves all as it was.
 */
final class Edges {
    /** A call with a value for the argument that is looked at. */
    interface Call {
        long on(OwnRain x, int value);
    }

    private final Due due;
    private final Supplier<OwnRain> make;
    private final String whole;

    Edges(Due due, Supplier<OwnRain> make) {
        this.due = due;
        this.make = make;
        whole = Whole.of(make.get());
    }

    /** A call that does something within the bounds (where want can tell of a refusal as well). */
    void does(String name, int least, int most, long refusal, Call call, IntToLongFunction want) {
        for (int value : around(least, most)) {
            OwnRain x = make.get();
            long wanted = value >= least && value <= most ? want.applyAsLong(value) : refusal;
            String told = name.replace("_", "" + value);
            due.is(told, call.on(x, value), wanted);
            due.is(told + " leaves all as it was", Whole.of(x).equals(whole), wanted == refusal);
        }
    }

    /** The same of a call that may do nothing within the bounds either. */
    void takes(String name, int least, int most, long refusal, Call call, IntToLongFunction want) {
        for (int value : around(least, most)) {
            OwnRain x = make.get();
            long wanted = value >= least && value <= most ? want.applyAsLong(value) : refusal;
            String told = name.replace("_", "" + value);
            due.is(told, call.on(x, value), wanted);
            due.is(told + " leaves all as it was", wanted != refusal || Whole.of(x).equals(whole), true);
        }
    }

    /** A call that only asks: nothing is changed within the bounds either. */
    void asks(String name, int least, int most, long refusal, Call call, IntToLongFunction want) {
        asksAny(name, least, most, call, v -> v >= least && v <= most ? want.applyAsLong(v) : refusal);
    }

    /** A call that only asks; want tells what is due for any value. */
    void asksAny(String name, int least, int most, Call call, IntToLongFunction want) {
        OwnRain x = make.get();
        for (int value : around(least, most)) {
            due.is(name.replace("_", "" + value), call.on(x, value), want.applyAsLong(value));
        }
        due.is(name + " changes nothing", Whole.of(x).equals(whole), true);
    }

    void refuses(String name, long refusal, ToLongFunction<OwnRain> call) {
        OwnRain x = make.get();
        due.is(name, call.applyAsLong(x), refusal);
        due.is(name + " leaves all as it was", Whole.of(x).equals(whole), true);
    }

    /** Every value of few ones, else those beside the bounds; what looks like one by its lowest bits; and far ones. */
    static int[] around(int least, int most) {
        TreeSet<Integer> values = new TreeSet<>();
        for (int bound : new int[] {least, most}) {
            for (int beside = -3; beside <= 3; beside++) {
                values.add(bound + beside);
            }
            for (int shift : new int[] {5, 8, 16, 30, 31}) {
                values.add(bound + (1 << shift));
                values.add(bound - (1 << shift));
            }
        }
        long many = (long) most - least;
        for (int i = 0; i <= many && many <= 20; i++) {
            values.add(least + i);
        }
        values.add((int) (least + many / 2));
        for (int far : new int[] {Integer.MIN_VALUE, Integer.MIN_VALUE + 1, -1000, -1, 0, 1, 1000, Integer.MAX_VALUE - 1, Integer.MAX_VALUE}) {
            values.add(far);
        }
        return values.stream().mapToInt(Integer::intValue).toArray();
    }
}
