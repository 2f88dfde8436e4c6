import java.util.ArrayList;
import java.util.List;
import java.util.function.Supplier;
import java.util.function.ToIntFunction;

/**
 * Tries a call that must leave all as it is, and compares all that can be seen of the engine after it with another
 * engine in the same state without the call. The looks use the engine up, so each has an engine of its own, and none
 * needs more than the 512 calls that an object has.
 */
final class Unchanged {
    private static final int[] CODES = {-2, -3, -4, -5};

    private Unchanged() {
    }

    /** The call is refused: it answers the code and changes nothing but the code's counter, which grows by 1. */
    static void butCounter(String call, Supplier<HornEngine> state, ToIntFunction<HornEngine> made, int code) {
        compare(call, state, made, code, code);
    }

    /** The call gives this answer and changes nothing, not even a counter. */
    static void atAll(String call, Supplier<HornEngine> state, ToIntFunction<HornEngine> made, int answer) {
        compare(call, state, made, answer, 0);
    }

    private static void compare(String call, Supplier<HornEngine> state, ToIntFunction<HornEngine> made, int answer,
        int counted) {
        Supplier<HornEngine> after = () -> {
            HornEngine x = state.get();
            Check.due(call, made.applyAsInt(x), answer);
            return x;
        };
        for (int code : CODES) {
            int more = code == counted ? 1 : 0;
            Check.due("after " + call + " errorCount(" + code + ")", after.get().errorCount(code),
                state.get().errorCount(code) + more);
        }
        Check.due("after " + call + " digest()", after.get().digest(), state.get().digest() + step(state.get(), counted));
        same(call + ": the rules", rules(state.get()), rules(after.get()));
        same(call + ": the assumable atoms", assumable(state.get()), assumable(after.get()));
        same(call + ": the text", text(state.get()), text(after.get()));
        same(call + ": the saved states", savedStates(state.get()), savedStates(after.get()));
    }

    private static void same(String what, List<Integer> before, List<Integer> after) {
        Check.holds(what + " were " + before + " and are " + after, before.equals(after));
    }

    /** By how much the digest grows if one counter grows by 1: 31 for each value behind the counter, multiplied. */
    private static long step(HornEngine x, int counted) {
        if (counted == 0) {
            return 0;
        }
        int fired = 0;
        while (x.fired(fired) != -1) {
            fired++;
        }
        int atoms = Integer.bitCount(x.model());
        int behind = (counted + 5) + 3 + 4 * x.rules() + 1 + atoms + fired + 3 * atoms + 2;
        long step = 1;
        for (int i = 0; i < behind; i++) {
            step *= 31;
        }
        return step;
    }

    private static List<Integer> rules(HornEngine x) {
        List<Integer> seen = new ArrayList<>();
        int count = x.rules();
        seen.add(count);
        for (int rule = 0; rule < count; rule++) {
            seen.add(x.head(rule));
            seen.add(x.body(rule));
        }
        seen.add(x.model());
        return seen;
    }

    private static List<Integer> assumable(HornEngine x) {
        return List.of(x.setAssumable(0));
    }

    /** A rule is taken back first, so that there is room for the text's. */
    private static List<Integer> text(HornEngine x) {
        List<Integer> seen = new ArrayList<>();
        x.undo();
        seen.add(x.parse());
        seen.addAll(rules(x));
        seen.add(x.append(';'));
        seen.add(x.parse());
        seen.add(x.clearText());
        return seen;
    }

    private static List<Integer> savedStates(HornEngine x) {
        List<Integer> seen = new ArrayList<>();
        for (int i = 0; i < 5; i++) {
            seen.add(x.undo());
            seen.addAll(rules(x));
            seen.addAll(assumable(x));
            x.undo();
        }
        return seen;
    }
}
