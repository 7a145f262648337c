import java.util.ArrayList;
import java.util.Arrays;
import java.util.List;
import java.util.function.Supplier;

/**
 * A call whose numbers are each as told, or not so for a reason (a refusal, or -10 less a FAULT). Every mix of them
 * is tried: the answer is due to the reason that the call's line tells first, and nothing else is changed.
 */
final class Asked {
    interface Call {
        long on(TrueLitres x, int[] numbers);
    }

    /** What can be given at one place of a call. */
    static final class Place {
        private final List<Integer> numbers = new ArrayList<>();
        private final List<Integer> reasons = new ArrayList<>();

        /** These are as told, too. */
        Place and(int... more) {
            return or(AS_TOLD, more);
        }

        /** These are not so, for this reason. */
        Place or(int reason, int... more) {
            for (int number : more) {
                numbers.add(number);
                reasons.add(reason);
            }
            return this;
        }
    }

    private static final int AS_TOLD = 0;

    private final String name;
    private final Supplier<TrueLitres> world;
    private final Call call;
    private int[] order = {};
    private int standing = AS_TOLD;
    private boolean isLong = false;
    private boolean namesFaults = false;
    private boolean onlyTells = false;
    private int tried = 0;

    private Asked(String name, Supplier<TrueLitres> world, Call call) {
        this.name = name;
        this.world = world;
        this.call = call;
    }

    static Asked call(String name, Supplier<TrueLitres> world, Call call) {
        return new Asked(name, world, call);
    }

    static Place good(int... numbers) {
        return new Place().and(numbers);
    }

    /** From least to greatest; what is beside them, and the least and the greatest int, is not so for the reason. */
    static Place within(int least, int greatest, int reason) {
        Place place = good(least, greatest);
        return place.or(reason, least - 1, greatest + 1, Integer.MIN_VALUE, Integer.MAX_VALUE);
    }

    /** The reasons in the order in which the call's line tells them. */
    Asked order(int... reasons) {
        order = reasons;
        return this;
    }

    /** The object itself is so that the call is not answered for this reason. */
    Asked standing(int reason) {
        standing = reason;
        return this;
    }

    Asked answersLong() {
        isLong = true;
        return this;
    }

    /** As told, it changes nothing either. */
    Asked onlyTells() {
        onlyTells = true;
        return this;
    }

    Asked namesFaults() {
        namesFaults = true;
        return this;
    }

    void with(Place... places) {
        tried = 0;
        tryMixes(places, new int[places.length], new int[places.length], 0);
        Check.dueTrue(tried > 0, name + " was tried");
    }

    private void tryMixes(Place[] places, int[] numbers, int[] reasons, int place) {
        if (place == places.length) {
            tryOne(numbers, first(reasons));
            return;
        }
        for (int i = 0; i < places[place].numbers.size(); i++) {
            numbers[place] = places[place].numbers.get(i);
            reasons[place] = places[place].reasons.get(i);
            tryMixes(places, numbers, reasons, place + 1);
        }
    }

    private int first(int[] reasons) {
        for (int reason : order) {
            if (reason == standing || Arrays.stream(reasons).anyMatch(r -> r == reason)) {
                return reason;
            }
        }
        return AS_TOLD;
    }

    private void tryOne(int[] numbers, int reason) {
        tried++;
        TrueLitres x = world.get();
        int faultAhead = x.fault();
        long got = call.on(x, numbers);
        String what = name + Arrays.toString(numbers);
        if (reason == AS_TOLD) {
            Check.dueTrue(!isRefused(got), what + " is not refused, but is answered " + got);
        } else {
            Check.due(got, isLong ? TrueLitres.LOST : reason, what);
        }
        Check.due(x.fault(), faultDue(reason, faultAhead), what + ", fault()");
        if (reason != AS_TOLD || onlyTells) {
            Check.dueTrue(State.of(x).equals(State.of(world.get())), what + " changes nothing");
        }
    }

    private boolean isRefused(long got) {
        return isLong ? got == TrueLitres.LOST : Arrays.stream(order).anyMatch(r -> r == got);
    }

    private int faultDue(int reason, int ahead) {
        if (!namesFaults) {
            return ahead;
        }
        return reason < -10 ? -10 - reason : 0;
    }
}
