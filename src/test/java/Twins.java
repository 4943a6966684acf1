import java.util.function.Supplier;
import java.util.function.ToLongFunction;

/** Two objects made alike: one gets a call more, which must not show in anything that either answers later. */
final class Twins {
    private final Check check;
    private final Supplier<SettleLayers> made;

    Twins(Check check, Supplier<SettleLayers> made) {
        this.check = check;
        this.made = made;
    }

    void refuse(String call, ToLongFunction<SettleLayers> refused) {
        answer(call, refused, SettleLayers.BAD);
    }

    void answer(String call, ToLongFunction<SettleLayers> asked, long due) {
        SettleLayers x = made.get();
        check.same(call, asked.applyAsLong(x), due);
        compare(call, x);
    }

    void leave(String call, ToLongFunction<SettleLayers> asked) {
        SettleLayers x = made.get();
        asked.applyAsLong(x);
        compare(call, x);
    }

    private void compare(String call, SettleLayers x) {
        SettleLayers twin = made.get();
        check.holds(call + " leaves all as it is", Look.at(x).equals(Look.at(twin)));
        check.holds(call + " leaves what comes as it is", later(x).equals(later(twin)));
    }

    private static String later(SettleLayers x) {
        StringBuilder seen = new StringBuilder();
        seen.append(x.layer(1, 30, 5, 7, 5)).append(' ');
        seen.append(x.load(x.count(3), 7777)).append(' ');
        seen.append(x.until(500)).append(' ');
        seen.append(x.surcharge(1000, 2)).append(' ');
        seen.append(x.run(2)).append(' ');
        seen.append(x.read(5, 12)).append(' ');
        seen.append(x.run(3)).append(' ');
        return seen.append(Look.at(x)).toString();
    }
}
