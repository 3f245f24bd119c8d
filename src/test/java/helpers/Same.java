import java.util.function.Supplier;
import java.util.function.ToLongFunction;

/** Tries calls behind which nothing may have changed: refused ones, and those that only ask. */
final class Same {
    private final Due due;
    private final Supplier<CrankLayout> state;
    private final String untouched;

    /** The calls are tried on layouts that the state makes, all alike. */
    Same(Due due, Supplier<CrankLayout> state) {
        this.due = due;
        this.state = state;
        untouched = Seen.all(state.get());
    }

    /** The call answers this, twice, and the layout is then as one without the call. */
    Same after(String call, ToLongFunction<CrankLayout> made, long want) {
        CrankLayout x = state.get();
        due.is(call, made.applyAsLong(x), want);
        due.is(call + " once more", made.applyAsLong(x), want);
        String then = Seen.all(x);
        if (!then.equals(untouched)) {
            due.holds(call + " changes nothing: " + untouched + " became " + then, false);
        }
        return this;
    }
}
