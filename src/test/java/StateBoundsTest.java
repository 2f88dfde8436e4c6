import java.util.function.Supplier;
import java.util.function.ToIntFunction;

/** Each sentence of "Undo" and "Errors" that names a boundary case, and the 512 calls of an object. */
final class StateBoundsTest {
    private static final int MIN = Integer.MIN_VALUE;
    private static final int MAX = Integer.MAX_VALUE;
    private static final int LIFE = 512;

    public static void main(String[] args) {
        undoableCalls();
        callsThatChangeNothing();
        atMostFourStates();
        oldestIsDropped();
        whatAStateContains();
        whatAStateDoesNotContain();
        refusedCallsChangeNothing();
        orderOfTheChecks();
        errorsToTheLastCall();
        changesToTheLastCall();
        answersToTheLastCall();
        Check.end();
    }

    // ---- Undo

    private static void undoableCalls() {
        Check.sentence("Promises 2, 3, 20, 24, 25:",
            "Each successful call of a method whose description says \"undoable\" saves the state from before the call");
        saves("addRule", true, x -> x.addRule(1, 0));
        saves("removeRule", true, x -> x.removeRule(0));
        saves("setAssumable", true, x -> x.setAssumable(1));
        saves("parse", true, HornEngine::parse);
        saves("a refused addRule", false, x -> x.addRule(16, 0));
        saves("a refused removeRule", false, x -> x.removeRule(x.rules()));
        saves("a refused setAssumable", false, x -> x.setAssumable(0x1FF));
        saves("a refused parse", false, x -> {
            x.append('x');
            return x.parse();
        });
        saves("append", false, x -> x.append(' '));
        saves("clearText", false, HornEngine::clearText);
        saves("gained", false, x -> x.gained(9, 0));
        saves("undo", false, x -> x.addRule(1, 0) < 0 ? -1 : x.undo());
        saves("explanation", false, x -> x.explanation(4));
        saves("digest", false, x -> (int) x.digest());
    }

    /** Tried with no state saved and with one: the saved state is the one from before the call. */
    private static void saves(String call, boolean saved, ToIntFunction<HornEngine> made) {
        HornEngine x = States.worn();
        Texts.put(x, "9:8;");
        made.applyAsInt(x);
        Check.due(call + ", then undo()", x.undo(), saved ? 0 : -5);
        Check.due(call + ", then rules()", x.rules(), 3);
        Check.due(call + ", then head(0)", x.head(0), 0);
        Check.due(call + ", then setAssumable", x.setAssumable(0), 0x30);
        Texts.put(x, "9:8;");
        made.applyAsInt(x);
        Check.due(call + " after a saved state, then undo()", x.undo(), saved ? 1 : 0);
        Check.due(call + " after a saved state, then rules()", x.rules(), 3);
        Check.due("the assumable atoms after it", x.setAssumable(1), saved ? 0 : 0x30);
    }

    private static void callsThatChangeNothing() {
        Check.sentence("Promises 20, 24, 25:", "even if the call changes nothing");
        HornEngine x = new HornEngine();
        Check.due("setAssumable(0)", x.setAssumable(0), 0);
        Check.due("parse() of no text", x.parse(), 0);
        x.append(' ');
        Check.due("parse() of a space", x.parse(), 0);
        Check.due("setAssumable(0)", x.setAssumable(0), 0);
        for (int left = 3; left >= 0; left--) {
            Check.due("undo()", x.undo(), left);
        }
        Check.due("undo()", x.undo(), -5);
        HornEngine full = States.facts(24);
        Check.due("parse() without a rule when there is no room", full.parse(), 0);
        Check.due("undo()", full.undo(), 3);
        Check.due("rules()", full.rules(), 24);
        Check.due("undo()", full.undo(), 2);
        Check.due("rules()", full.rules(), 23);
        HornEngine pushed = new HornEngine();
        pushed.addRule(0, 0);
        for (int i = 0; i < 4; i++) {
            pushed.setAssumable(0);
        }
        for (int left = 3; left >= 0; left--) {
            Check.due("undo() of calls that change nothing", pushed.undo(), left);
        }
        Check.due("the change before them is dropped: undo()", pushed.undo(), -5);
        Check.due("the change before them is dropped: rules()", pushed.rules(), 1);
    }

    private static void atMostFourStates() {
        Check.sentence("Promise 25:", "at most 4 states are saved");
        for (int calls = 0; calls <= 10; calls++) {
            HornEngine x = States.facts(calls);
            int saved = Math.min(calls, 4);
            for (int left = saved - 1; left >= 0; left--) {
                Check.due("after " + calls + " calls undo()", x.undo(), left);
            }
            Check.due("after " + calls + " calls one undo() more", x.undo(), -5);
            Check.due("after " + calls + " calls rules()", x.rules(), calls - saved);
            Check.due("after " + calls + " calls errorCount(-5)", x.errorCount(-5), 1);
        }
    }

    private static void oldestIsDropped() {
        Check.sentence("Promise 25:", "the oldest is dropped first");
        HornEngine x = States.facts(5);
        for (int left = 3; left >= 0; left--) {
            Check.due("undo()", x.undo(), left);
            Check.due("rules() after it", x.rules(), left + 1);
        }
        HornEngine again = States.facts(6);
        Check.due("undo()", again.undo(), 3);
        Check.due("undo()", again.undo(), 2);
        for (int rule = 4; rule < 8; rule++) {
            Check.due("addRule", again.addRule(15, 0), rule);
        }
        for (int left = 3; left >= 0; left--) {
            Check.due("undo()", again.undo(), left);
            Check.due("rules() after it", again.rules(), left + 4);
            Check.due("head(3) after it", again.head(3), 3);
        }
        Check.due("undo() of a dropped state", again.undo(), -5);
    }

    private static void whatAStateContains() {
        Check.sentence("Promise 25:", "The saved state contains the rules and the assumable atoms");
        HornEngine x = new HornEngine();
        x.setAssumable(1);
        x.addRule(5, 0x8421);
        x.setAssumable(2);
        x.removeRule(0);
        Check.due("undo() of removeRule", x.undo(), 3);
        Check.due("head(0)", x.head(0), 5);
        Check.due("body(0)", x.body(0), 0x8421);
        Check.due("the assumable atoms", assumable(x), 2);
        Check.due("undo() of setAssumable", x.undo(), 2);
        Check.due("rules()", x.rules(), 1);
        Check.due("the assumable atoms", assumable(x), 1);
        Check.due("undo() of addRule", x.undo(), 1);
        Check.due("rules()", x.rules(), 0);
        Check.due("the assumable atoms", assumable(x), 1);
        Check.due("undo() of setAssumable", x.undo(), 0);
        Check.due("the assumable atoms", assumable(x), 0);
        HornEngine full = States.facts(24);
        full.removeRule(0);
        full.undo();
        for (int rule = 0; rule < 24; rule++) {
            Check.due("all 24 rules are back: head(" + rule + ")", full.head(rule), rule % 16);
        }
        Check.due("all 24 rules are back: rules()", full.rules(), 24);
    }

    private static int assumable(HornEngine x) {
        int atoms = x.setAssumable(0xF0);
        x.undo();
        return atoms;
    }

    private static void whatAStateDoesNotContain() {
        Check.sentence("Promises 22, 23, 25, 26:", "but not the input text and the error counters");
        HornEngine x = new HornEngine();
        x.append('1');
        x.addRule(0, 0);
        x.append(':');
        x.append(';');
        x.head(9);
        x.level(9);
        Check.due("undo()", x.undo(), 0);
        Check.due("errorCount(-2)", x.errorCount(-2), 1);
        Check.due("errorCount(-3)", x.errorCount(-3), 1);
        Check.due("the text that is longer than it was", x.parse(), 1);
        x.clearText();
        Check.due("undo()", x.undo(), 0);
        Check.due("the text that is empty", x.clearText(), 0);
        HornEngine full = States.full();
        Check.due("undo() with a full text", full.undo(), 3);
        for (int code = -5; code <= -2; code++) {
            Check.due("errorCount(" + code + ")", full.errorCount(code), 1);
        }
        Check.due("the full text", full.clearText(), 120);
    }

    // ---- Errors

    private static void refusedCallsChangeNothing() {
        Check.sentence("All promises that have error codes:",
            "A call that returns an error code changes nothing except that it increments the counter of that code");
        refusedEverywhere("a new object", States::fresh, 0);
        refusedEverywhere("a busy object", States::busy, 4);
        refusedEverywhere("a worn object", States::worn, 3);
        refusedEverywhere("a full object", States::full, 24);
        refusedWhenFull();
        Unchanged.butCounter("undo() of a new object", States::fresh, HornEngine::undo, -5);
        Unchanged.butCounter("undo() of a worn object", States::worn, HornEngine::undo, -5);
    }

    private static void refusedEverywhere(String where, Supplier<HornEngine> state, int rules) {
        for (int rule : new int[] {MIN, -1, rules, MAX}) {
            refused("removeRule(" + rule + ") of " + where, state, x -> x.removeRule(rule));
            refused("head(" + rule + ") of " + where, state, x -> x.head(rule));
            refused("body(" + rule + ") of " + where, state, x -> x.body(rule));
            refused("overDeleted(" + rule + ") of " + where, state, x -> x.overDeleted(rule));
            refused("lost(" + rule + ") of " + where, state, x -> x.lost(rule));
        }
        for (int atom : new int[] {MIN, -1, 16, MAX}) {
            refused("level(" + atom + ") of " + where, state, x -> x.level(atom));
            refused("supports(" + atom + ") of " + where, state, x -> x.supports(atom));
            refused("reason(" + atom + ") of " + where, state, x -> x.reason(atom));
            refused("necessary(" + atom + ") of " + where, state, x -> x.necessary(atom));
            refused("dependencies(" + atom + ") of " + where, state, x -> x.dependencies(atom));
            refused("explanation(" + atom + ") of " + where, state, x -> x.explanation(atom));
            refused("addRule(" + atom + ", 0) of " + where, state, x -> x.addRule(atom, 0));
            refused("gained(" + atom + ", 0) of " + where, state, x -> x.gained(atom, 0));
        }
        for (int body : new int[] {MIN, -1, 31, 65535, 65536, MAX}) {
            refused("addRule(0, " + body + ") of " + where, state, x -> x.addRule(0, body));
            refused("gained(0, " + body + ") of " + where, state, x -> x.gained(0, body));
        }
        for (int atoms : new int[] {MIN, -1, 0x1FF, 65535, 65536, MAX}) {
            refused("setAssumable(" + atoms + ") of " + where, state, x -> x.setAssumable(atoms));
        }
        for (int value : new int[] {MIN, -1, 128, MAX}) {
            refused("append(" + value + ") of " + where, state, x -> x.append(value));
        }
        for (int code : new int[] {MIN, -6, -1, MAX}) {
            refused("errorCount(" + code + ") of " + where, state, x -> x.errorCount(code));
        }
        for (int index : new int[] {MIN, -1}) {
            refused("derived(" + index + ") of " + where, state, x -> x.derived(index));
            refused("fired(" + index + ") of " + where, state, x -> x.fired(index));
        }
        Unchanged.butCounter("level(15) of " + where, state, x -> x.level(15), -3);
        Unchanged.butCounter("reason(15) of " + where, state, x -> x.reason(15), -3);
        Unchanged.butCounter("necessary(15) of " + where, state, x -> x.necessary(15), -3);
        Unchanged.butCounter("explanation(15) of " + where, state, x -> x.explanation(15), -3);
    }

    private static void refused(String call, Supplier<HornEngine> state, ToIntFunction<HornEngine> made) {
        Unchanged.butCounter(call, state, made, -2);
    }

    private static void refusedWhenFull() {
        for (int body : new int[] {0, 1, 15, 0xF000}) {
            Unchanged.butCounter("addRule(15, " + body + ") without room", States::full, x -> x.addRule(15, body), -4);
        }
        for (int value : new int[] {0, ';', 127}) {
            Unchanged.butCounter("append(" + value + ") without room", States::full, x -> x.append(value), -4);
        }
    }

    private static void orderOfTheChecks() {
        Check.sentence("Promises 2, 10, 13, 14, 21, 22:",
            "The checks of a method are made in the order in which its error codes are listed");
        for (int atom : new int[] {-1, 16}) {
            HornEngine full = States.full();
            Check.due("addRule(" + atom + ", 0): range before room", full.addRule(atom, 0), -2);
            Check.due("level(" + atom + "): range before the model", full.level(atom), -2);
            Check.due("reason(" + atom + "): range before the model", full.reason(atom), -2);
            Check.due("necessary(" + atom + "): range before the model", full.necessary(atom), -2);
            Check.due("explanation(" + atom + "): range before the model", full.explanation(atom), -2);
            Check.due("errorCount(-2)", full.errorCount(-2), 6);
            Check.due("errorCount(-3)", full.errorCount(-3), 1);
            Check.due("errorCount(-4)", full.errorCount(-4), 1);
        }
        HornEngine full = States.full();
        Check.due("addRule(0, 31): range before room", full.addRule(0, 31), -2);
        Check.due("addRule(0, 65536): range before room", full.addRule(0, 65536), -2);
        Check.due("append(128): range before room", full.append(128), -2);
        Check.due("append(-1): range before room", full.append(-1), -2);
        Check.due("addRule(0, 15): room", full.addRule(0, 15), -4);
        Check.due("append(127): room", full.append(127), -4);
        Check.due("errorCount(-2)", full.errorCount(-2), 5);
        Check.due("errorCount(-4)", full.errorCount(-4), 3);
    }

    // ---- What it is

    private static void errorsToTheLastCall() {
        Check.sentence("Promise 26:", "An object is used for at most 512 calls after it has been made");
        counted("head(0)", -2, 0, x -> x.head(0));
        counted("errorCount(-1)", -2, 0, x -> x.errorCount(-1));
        counted("level(0)", -3, 0, x -> x.level(0));
        counted("undo()", -5, 0, HornEngine::undo);
        counted("append(32)", -4, 120, x -> x.append(32));
        counted("addRule(0, 0)", -4, 24, x -> x.addRule(0, 0));
    }

    /** Of the first 511 calls some succeed and all others are refused; the 512th tells how many those were. */
    private static void counted(String call, int code, int succeed, ToIntFunction<HornEngine> made) {
        HornEngine x = new HornEngine();
        for (int calls = 1; calls < LIFE; calls++) {
            int answer = made.applyAsInt(x);
            Check.due(call + " as call " + calls, answer < 0 ? answer : 0, calls <= succeed ? 0 : code);
        }
        Check.due("errorCount(" + code + ") as call 512", x.errorCount(code), LIFE - 1 - succeed);
    }

    private static void changesToTheLastCall() {
        Check.sentence("Promises 2, 3, 20, 22, 23, 24, 25:",
            "An object is used for at most 512 calls after it has been made");
        HornEngine rules = new HornEngine();
        HornEngine atoms = new HornEngine();
        HornEngine text = new HornEngine();
        HornEngine undo = new HornEngine();
        for (int call = 0; call < LIFE; call += 2) {
            Check.due("addRule as call " + (call + 1), rules.addRule(call / 2 % 16, 0), 0);
            Check.due("removeRule as call " + (call + 2), rules.removeRule(0), 0);
            Check.due("append as call " + (call + 1), text.append(call % 128), 1);
            Check.due("clearText as call " + (call + 2), text.clearText(), 1);
            Check.due("parse as call " + (call + 1), undo.parse(), 0);
            Check.due("undo as call " + (call + 2), undo.undo(), 0);
        }
        for (int call = 0; call < LIFE; call++) {
            Check.due("setAssumable as call " + (call + 1), atoms.setAssumable(call % 256), call == 0 ? 0 : (call - 1) % 256);
        }
    }

    private static void answersToTheLastCall() {
        Check.sentence("Promises 4 to 19, 21, 27:", "An object is used for at most 512 calls after it has been made");
        long young = States.chain().digest();
        HornEngine old = States.chain();
        for (int call = 17; call <= LIFE; call++) {
            Check.due("digest() as call " + call, old.digest(), young);
        }
        HornEngine x = States.chain();
        for (int call = 17; call <= LIFE; call++) {
            answerOfTheChain(x, call, call % 16);
        }
    }

    private static void answerOfTheChain(HornEngine x, int call, int atom) {
        String as = " as call " + call;
        switch (call % 13) {
            case 0 -> Check.due("rules()" + as, x.rules(), 16);
            case 1 -> Check.due("model()" + as, x.model(), 65535);
            case 2 -> Check.due("derived(" + atom + ")" + as, x.derived(atom), atom);
            case 3 -> Check.due("fired(" + atom + ")" + as, x.fired(atom), 15 - atom);
            case 4 -> Check.due("level(" + atom + ")" + as, x.level(atom), atom);
            case 5 -> Check.due("modelShareBits()" + as, x.modelShareBits(), 0x3F800000);
            case 6 -> Check.due("supports(" + atom + ")" + as, x.supports(atom), 1 << (15 - atom));
            case 7 -> Check.due("reason(15)" + as, x.reason(15), 65535);
            case 8 -> Check.due("necessary(15)" + as, x.necessary(15), 65535);
            case 9 -> Check.due("dependencies(" + atom + ")" + as, x.dependencies(atom), (1 << atom) - 1);
            case 10 -> Check.due("overDeleted(15)" + as, x.overDeleted(15), 65535);
            case 11 -> Check.due("lost(15)" + as, x.lost(15), 65535);
            default -> Check.due("explanation(" + atom + ")" + as, x.explanation(atom), 0);
        }
    }
}
