import java.math.BigInteger;
import java.util.function.IntUnaryOperator;

/** Promise by promise: the least and the greatest argument, those beside them, each error code, NONE, full, empty. */
final class PromiseBoundsTest {
    private static final int MIN = Integer.MIN_VALUE;
    private static final int MAX = Integer.MAX_VALUE;
    private static final int ALL = 65535;
    private static final int[] NO_ATOMS = {MIN, MIN + 1, -65536, -16, -2, -1, 16, 17, 31, 32, 48, 65535, 65536, MAX - 1, MAX};
    private static final int[] NO_SETS = {MIN, MIN + 1, MIN + 15, -65536, -2, -1, 65536, 65537, 1 << 20, 1 << 30, MAX - 1, MAX};

    public static void main(String[] args) {
        newObject();
        addRule();
        removeRule();
        ruleCount();
        headAndBody();
        model();
        derived();
        fired();
        level();
        modelShareBits();
        supports();
        reasonAndNecessary();
        dependencies();
        cyclicAtoms();
        overDeletedAndLost();
        gained();
        setAssumable();
        explanation();
        append();
        clearText();
        parse();
        undo();
        errorCount();
        digest();
        Check.end();
    }

    private static void newObject() {
        Check.sentence("Promise 1:",
            "Creates an engine without rules, without assumable atoms and with an empty input text");
        Check.due("rules()", new HornEngine().rules(), 0);
        Check.due("setAssumable(1)", new HornEngine().setAssumable(1), 0);
        Check.due("clearText()", new HornEngine().clearText(), 0);
        Check.due("append(48)", new HornEngine().append(48), 1);
        Check.due("parse()", new HornEngine().parse(), 0);
        Check.due("undo()", new HornEngine().undo(), -5);
        Check.due("addRule(0, 0)", new HornEngine().addRule(0, 0), 0);
        for (int code = -5; code <= -2; code++) {
            Check.due("errorCount(" + code + ")", new HornEngine().errorCount(code), 0);
        }
        HornEngine other = States.full();
        HornEngine x = new HornEngine();
        Check.due("rules() beside another object", x.rules(), 0);
        Check.due("clearText() beside another object", x.clearText(), 0);
        Check.due("undo() beside another object", x.undo(), -5);
        Check.due("the other object's rules()", other.rules(), 24);
    }

    /** The method's answers for arguments that are no atoms: refused, each counted, in each state. */
    private static void noAtoms(String method, HornEngine x, IntUnaryOperator called) {
        int before = x.errorCount(-2);
        for (int i = 0; i < NO_ATOMS.length; i++) {
            Check.due(method + " of " + NO_ATOMS[i], called.applyAsInt(NO_ATOMS[i]), -2);
            Check.due("then errorCount(-2)", x.errorCount(-2), before + i + 1);
        }
    }

    private static void noSets(String method, HornEngine x, IntUnaryOperator called) {
        int before = x.errorCount(-2);
        for (int i = 0; i < NO_SETS.length; i++) {
            Check.due(method + " of " + NO_SETS[i], called.applyAsInt(NO_SETS[i]), -2);
            Check.due("then errorCount(-2)", x.errorCount(-2), before + i + 1);
        }
    }

    /** The method's answers for numbers that no rule has. */
    private static void noRules(String method, HornEngine x, int count, IntUnaryOperator called) {
        int before = x.errorCount(-2);
        int[] numbers = {MIN, MIN + 1, -24, -2, -1, count, count + 1, count + 24, 32 + count, MAX - 1, MAX};
        for (int i = 0; i < numbers.length; i++) {
            Check.due(method + " of " + numbers[i] + " with " + count + " rules", called.applyAsInt(numbers[i]), -2);
            Check.due("then errorCount(-2)", x.errorCount(-2), before + i + 1);
        }
        Check.due("then rules()", x.rules(), count);
    }

    private static void addRule() {
        Check.sentence("Promise 2:", "head: an atom, 0 to 15");
        HornEngine x = new HornEngine();
        noAtoms("addRule(head, 0)", x, head -> x.addRule(head, 0));
        Check.due("addRule(0, 0)", x.addRule(0, 0), 0);
        Check.due("addRule(15, 0)", x.addRule(15, 0), 1);
        Check.due("model()", x.model(), 0x8001);
        Check.sentence("Promise 2:", "body: a bit set of at most 4 atoms, 0 to 65535");
        noSets("addRule(0, body)", x, body -> x.addRule(0, body));
        Check.due("three atoms", x.addRule(0, 7), 2);
        Check.due("four atoms, the least", x.addRule(0, 15), 3);
        Check.due("four atoms, the greatest", x.addRule(0, 0xF000), 4);
        Check.due("five atoms, the least", x.addRule(0, 31), -2);
        Check.due("five atoms, the greatest", x.addRule(0, 0xF800), -2);
        Check.due("sixteen atoms", x.addRule(0, ALL), -2);
        Check.due("rules()", x.rules(), 5);
        Check.sentence("Promise 2:", "FULL if there are 24 rules");
        Check.due("with 23 rules", States.facts(23).addRule(0, 0), 23);
        HornEngine full = States.facts(24);
        for (int times = 1; times <= 3; times++) {
            Check.due("with 24 rules", full.addRule(0, 0), -4);
            Check.due("then errorCount(-4)", full.errorCount(-4), times);
        }
        Check.due("rules()", full.rules(), 24);
    }

    private static void removeRule() {
        Check.sentence("Promise 3:", "the number of rules that remain; OUT_OF_RANGE if there is no such rule");
        for (int count : new int[] {0, 1, 2, 23, 24}) {
            HornEngine x = States.facts(count);
            noRules("removeRule", x, count, x::removeRule);
            if (count > 0) {
                Check.due("removeRule of the last", x.removeRule(count - 1), count - 1);
                Check.due("removeRule of the last again", x.removeRule(count - 1), -2);
                Check.due("removeRule(0)", x.removeRule(0), count == 1 ? -2 : count - 2);
            }
        }
        HornEngine x = States.facts(24);
        for (int left = 23; left >= 0; left--) {
            Check.due("removeRule(0)", x.removeRule(0), left);
        }
        Check.due("removeRule(0) of none", x.removeRule(0), -2);
        Check.sentence("Promise 3:", "The rules with higher numbers move down by one");
        for (int gone = 0; gone < 24; gone++) {
            HornEngine moved = new HornEngine();
            for (int rule = 0; rule < 24; rule++) {
                moved.addRule(rule % 16, 1 << (rule % 13));
            }
            moved.removeRule(gone);
            for (int rule = 0; rule < 23; rule++) {
                int was = rule < gone ? rule : rule + 1;
                Check.due("head(" + rule + ") without " + gone, moved.head(rule), was % 16);
                Check.due("body(" + rule + ") without " + gone, moved.body(rule), 1 << (was % 13));
            }
            Check.due("head(23) without " + gone, moved.head(23), -2);
        }
    }

    private static void ruleCount() {
        Check.sentence("Promise 4:", "Returns the number of rules, 0 to 24");
        for (int count = 0; count <= 24; count++) {
            Check.due("rules()", States.facts(count).rules(), count);
        }
        HornEngine full = States.facts(24);
        full.addRule(0, 0);
        Check.due("rules() after a 25th", full.rules(), 24);
        HornEngine none = new HornEngine();
        none.removeRule(0);
        Check.due("rules() after removing none", none.rules(), 0);
    }

    private static void headAndBody() {
        Check.sentence("Promises 5, 6:", "OUT_OF_RANGE if there is no such rule");
        for (int count : new int[] {0, 1, 23, 24}) {
            HornEngine x = new HornEngine();
            for (int rule = 0; rule < count; rule++) {
                x.addRule(15 - rule % 16, 0x8000 >> rule % 16);
            }
            noRules("head", x, count, x::head);
            noRules("body", x, count, x::body);
            for (int rule = 0; rule < count; rule++) {
                Check.due("head(" + rule + ")", x.head(rule), 15 - rule % 16);
                Check.due("body(" + rule + ")", x.body(rule), 0x8000 >> rule % 16);
            }
        }
        HornEngine x = States.facts(3);
        x.removeRule(2);
        Check.due("head of a rule that is removed", x.head(2), -2);
        Check.due("body of a rule that is removed", x.body(2), -2);
        x.undo();
        Check.due("head of a rule that is back", x.head(2), 2);
        Check.due("body of a rule that is back", x.body(2), 0);
    }

    private static void model() {
        Check.sentence("Promise 7:", "Returns the model as a bit set");
        for (int count = 0; count <= 24; count++) {
            Check.due("model() of " + count + " facts", States.facts(count).model(), count < 16 ? (1 << count) - 1 : ALL);
        }
        Unchanged.atAll("model()", States::busy, HornEngine::model, 1);
    }

    private static void derived() {
        Check.sentence("Promise 8:", "NONE if the model has not so many atoms; OUT_OF_RANGE if index is negative");
        for (int count = 0; count <= 16; count++) {
            HornEngine x = States.facts(count);
            for (int index = 0; index <= 18; index++) {
                Check.due("derived(" + index + ") of " + count, x.derived(index), index < count ? index : -1);
            }
            indexBounds("derived", x, x::derived);
        }
        Unchanged.atAll("derived(1)", States::busy, x -> x.derived(1), -1);
        Unchanged.atAll("derived(MAX)", States::full, x -> x.derived(MAX), -1);
    }

    private static void fired() {
        Check.sentence("Promise 9:", "NONE if not so many rules fire; OUT_OF_RANGE if index is negative");
        for (int count = 0; count <= 24; count++) {
            HornEngine x = States.facts(count);
            for (int index = 0; index <= 26; index++) {
                Check.due("fired(" + index + ") of " + count, x.fired(index), index < count ? index : -1);
            }
            indexBounds("fired", x, x::fired);
        }
        Check.due("a rule that does not fire", Texts.engine("0:;1:2;").fired(1), -1);
        Unchanged.atAll("fired(1)", States::busy, x -> x.fired(1), -1);
        Unchanged.atAll("fired(MAX)", States::full, x -> x.fired(MAX), -1);
    }

    /** Great indexes are NONE and no error; negative ones are refused, NONE's own number among them. */
    private static void indexBounds(String method, HornEngine x, IntUnaryOperator called) {
        for (int index : new int[] {32, 65536, MAX - 1, MAX}) {
            Check.due(method + "(" + index + ")", called.applyAsInt(index), -1);
        }
        Check.due("NONE is not counted", x.errorCount(-2), 0);
        int refused = 0;
        for (int index : new int[] {-1, -2, -16, MIN + 1, MIN}) {
            Check.due(method + "(" + index + ")", called.applyAsInt(index), -2);
            Check.due("then errorCount(-2)", x.errorCount(-2), ++refused);
        }
    }

    private static void level() {
        Check.sentence("Promise 10:", "OUT_OF_RANGE if atom is out of range; NOT_DERIVED if the atom is not in the model");
        HornEngine x = States.chain();
        noAtoms("level", x, x::level);
        Check.due("level(0)", x.level(0), 0);
        Check.due("level(15)", x.level(15), 15);
        HornEngine none = new HornEngine();
        noAtoms("level without a model", none, none::level);
        notDerived("level", none, none::level);
    }

    /** The method's answers for the sixteen atoms, none of which is in the model. */
    private static void notDerived(String method, HornEngine x, IntUnaryOperator called) {
        int before = x.errorCount(-3);
        for (int atom = 0; atom <= 15; atom++) {
            Check.due(method + "(" + atom + ") outside the model", called.applyAsInt(atom), -3);
            Check.due("then errorCount(-3)", x.errorCount(-3), before + atom + 1);
        }
    }

    private static void modelShareBits() {
        Check.sentence("Promise 11:", "the number of atoms in the model, converted to float, divided by 16.0f");
        int[] known = {0, 0x3D800000, 0x3E000000, 0x3E400000, 0x3E800000, 0x3EA00000, 0x3EC00000, 0x3EE00000, 0x3F000000,
            0x3F100000, 0x3F200000, 0x3F300000, 0x3F400000, 0x3F500000, 0x3F600000, 0x3F700000, 0x3F800000};
        for (int count = 0; count <= 16; count++) {
            Check.due("modelShareBits() of " + count, States.facts(count).modelShareBits(), known[count]);
            Check.due("the same by the library", known[count], Float.floatToIntBits((float) count / 16.0f));
        }
        Check.due("modelShareBits() of 24 facts", States.facts(24).modelShareBits(), known[16]);
        Check.due("modelShareBits() of rules that do not fire", States.ring().modelShareBits(), known[0]);
    }

    private static void supports() {
        Check.sentence("Promise 12:", "Returns a bit set of rules; OUT_OF_RANGE if atom is out of range");
        HornEngine none = new HornEngine();
        noAtoms("supports", none, none::supports);
        for (int atom = 0; atom <= 15; atom++) {
            Check.due("supports(" + atom + ") without rules", none.supports(atom), 0);
            HornEngine x = new HornEngine();
            for (int rule = 0; rule < 24; rule++) {
                x.addRule(atom, 0);
            }
            Check.due("supports(" + atom + ") of 24 facts", x.supports(atom), 0xFFFFFF);
        }
        Check.due("an atom outside the model is no error", none.errorCount(-3), 0);
        Check.due("three of four atoms", Texts.engine("0:;1:;2:;9:0,1,2,3;").supports(9), 0);
        Check.due("four of four atoms", Texts.engine("0:;1:;2:;9:0,1,2,3;3:;").supports(9), 8);
        Check.due("a rule that supports its own head", Texts.engine("9:9;9:;").supports(9), 3);
    }

    private static void reasonAndNecessary() {
        Check.sentence("Promises 13, 14:",
            "OUT_OF_RANGE if atom is out of range; NOT_DERIVED if the atom is not in the model");
        HornEngine x = States.chain();
        noAtoms("reason", x, x::reason);
        noAtoms("necessary", x, x::necessary);
        for (int atom = 0; atom <= 15; atom++) {
            int rules = ALL & ~((1 << (15 - atom)) - 1);
            Check.due("reason(" + atom + ")", x.reason(atom), rules);
            Check.due("necessary(" + atom + ")", x.necessary(atom), rules);
        }
        HornEngine none = States.ring();
        noAtoms("reason without a model", none, none::reason);
        noAtoms("necessary without a model", none, none::necessary);
        notDerived("reason", none, none::reason);
        notDerived("necessary", none, none::necessary);
        Check.due("no rule is necessary, but the atom is derived", Texts.engine("0:;0:;").necessary(0), 0);
    }

    private static void dependencies() {
        Check.sentence("Promise 15:",
            "it contains the atom itself if the atom is cyclic); OUT_OF_RANGE if atom is out of range");
        HornEngine none = new HornEngine();
        noAtoms("dependencies", none, none::dependencies);
        HornEngine chain = States.chain();
        HornEngine ring = States.ring();
        for (int atom = 0; atom <= 15; atom++) {
            Check.due("dependencies(" + atom + ") without rules", none.dependencies(atom), 0);
            Check.due("dependencies(" + atom + ") of the chain", chain.dependencies(atom), (1 << atom) - 1);
            Check.due("dependencies(" + atom + ") of the ring", ring.dependencies(atom), ALL);
        }
        Check.due("an atom outside the model is no error", ring.errorCount(-3), 0);
    }

    private static void cyclicAtoms() {
        Check.sentence("Promise 16:", "Returns the cyclic atoms");
        Check.due("of no rules", new HornEngine().cyclicAtoms(), 0);
        Check.due("of the chain", States.chain().cyclicAtoms(), 0);
        Check.due("of the ring", States.ring().cyclicAtoms(), ALL);
        HornEngine x = new HornEngine();
        for (int atom = 0; atom <= 15; atom++) {
            x.addRule(atom, 1 << atom);
            Check.due("cyclicAtoms() up to " + atom, x.cyclicAtoms(), (2 << atom) - 1);
        }
    }

    private static void overDeletedAndLost() {
        Check.sentence("Promises 17, 18:", "Returns a bit set of atoms; OUT_OF_RANGE if there is no such rule");
        for (int count : new int[] {0, 1, 16, 23, 24}) {
            HornEngine x = States.facts(count);
            noRules("overDeleted", x, count, x::overDeleted);
            noRules("lost", x, count, x::lost);
            for (int rule = 0; rule < count; rule++) {
                boolean twice = rule >= 16 || rule + 16 < count;
                Check.due("overDeleted(" + rule + ")", x.overDeleted(rule), 1 << (rule % 16));
                Check.due("lost(" + rule + ")", x.lost(rule), twice ? 0 : 1 << rule);
            }
        }
        Unchanged.atAll("overDeleted(0)", States::busy, x -> x.overDeleted(0), 1);
        Unchanged.atAll("lost(0)", States::busy, x -> x.lost(0), 1);
        Unchanged.atAll("overDeleted(23)", States::full, x -> x.overDeleted(23), 512);
        Unchanged.atAll("lost(23)", States::full, x -> x.lost(23), 0);
    }

    private static void gained() {
        Check.sentence("Promise 19:", "OUT_OF_RANGE if an argument is out of range or body has more than 4 atoms");
        HornEngine x = new HornEngine();
        noAtoms("gained(head, 0)", x, head -> x.gained(head, 0));
        noSets("gained(0, body)", x, body -> x.gained(0, body));
        Check.due("gained(0, 0)", x.gained(0, 0), 1);
        Check.due("gained(15, 0)", x.gained(15, 0), 0x8000);
        Check.due("four atoms, the least", x.gained(0, 15), 0);
        Check.due("four atoms, the greatest", x.gained(0, 0xF000), 0);
        Check.due("five atoms, the least", x.gained(0, 31), -2);
        Check.due("five atoms, the greatest", x.gained(0, 0xF800), -2);
        Check.due("sixteen atoms", x.gained(0, ALL), -2);
        Check.sentence("Promise 19:", "whether there is room for the rule or not");
        for (int count = 22; count <= 24; count++) {
            HornEngine facts = new HornEngine();
            for (int rule = 0; rule < count; rule++) {
                facts.addRule(0, 0);
            }
            Check.due("gained(1, 1) with " + count + " rules", facts.gained(1, 1), 2);
            Check.due("gained(1, 4) with " + count + " rules", facts.gained(1, 4), 0);
            Check.due("then errorCount(-4)", facts.errorCount(-4), 0);
            Check.due("then rules()", facts.rules(), count);
        }
        Check.sentence("Promise 19:", "Nothing is changed");
        Unchanged.atAll("gained(14, 0)", States::fresh, e -> e.gained(14, 0), 1 << 14);
        Unchanged.atAll("gained(14, 1)", States::busy, e -> e.gained(14, 1), 1 << 14);
        Unchanged.atAll("gained(14, 15)", States::full, e -> e.gained(14, 15), 1 << 14);
    }

    private static void setAssumable() {
        Check.sentence("Promise 20:", "a bit set of at most 8 atoms, 0 to 65535");
        for (int start = 0; start <= ALL; start += 256) {
            HornEngine x = new HornEngine();
            int previous = 0;
            for (int atoms = start; atoms < start + 256; atoms++) {
                boolean good = Integer.bitCount(atoms) <= 8;
                Check.due("setAssumable(" + atoms + ")", x.setAssumable(atoms), good ? previous : -2);
                previous = good ? atoms : previous;
            }
            Check.due("the previous set", x.setAssumable(0), previous);
        }
        HornEngine x = new HornEngine();
        x.setAssumable(0xFF00);
        noSets("setAssumable", x, x::setAssumable);
        Check.due("seven atoms", x.setAssumable(0x7F), 0xFF00);
        Check.due("eight atoms", x.setAssumable(0xFF), 0x7F);
        Check.due("nine atoms", x.setAssumable(0x1FF), -2);
        Check.due("sixteen atoms", x.setAssumable(ALL), -2);
        Check.due("the previous set, not the refused one", x.setAssumable(0), 0xFF);
        Check.due("none", x.setAssumable(1), 0);
    }

    private static void explanation() {
        Check.sentence("Promise 21:", "0 if the atom is in the model");
        HornEngine facts = States.facts(16);
        facts.setAssumable(0xFF);
        for (int atom = 0; atom <= 15; atom++) {
            Check.due("explanation(" + atom + ") of a fact", facts.explanation(atom), 0);
        }
        HornEngine beside = Texts.engine("0:;1:0;2:3;");
        beside.setAssumable(15);
        int[] best = {0, 0, 4, 8};
        for (int atom = 0; atom < best.length; atom++) {
            Check.due("explanation(" + atom + ")", beside.explanation(atom), best[atom]);
        }
        Check.sentence("Promise 21:", "OUT_OF_RANGE if atom is out of range; NOT_DERIVED if the atom has no explanation");
        HornEngine none = States.ring();
        noAtoms("explanation", none, none::explanation);
        notDerived("explanation", none, none::explanation);
        none.setAssumable(1);
        noAtoms("explanation", none, none::explanation);
        for (int atom = 0; atom <= 15; atom++) {
            Check.due("explanation(" + atom + ") by 0 around the ring", none.explanation(atom), 1);
        }
        Unchanged.atAll("explanation(4)", States::busy, x -> x.explanation(4), 16);
        Unchanged.atAll("explanation(0)", States::full, x -> x.explanation(0), 0);
    }

    private static void append() {
        Check.sentence("Promise 22:", "the byte, 0 to 127");
        HornEngine x = new HornEngine();
        int refused = 0;
        for (int value : new int[] {MIN, MIN + 1, -128, -2, -1, 128, 129, 255, 256, 304, MAX - 1, MAX}) {
            Check.due("append(" + value + ")", x.append(value), -2);
            Check.due("then errorCount(-2)", x.errorCount(-2), ++refused);
        }
        Check.due("append(0)", x.append(0), 1);
        Check.due("append(127)", x.append(127), 2);
        for (int value = 0; value <= 127; value++) {
            Check.due("append(" + value + ") to no text", new HornEngine().append(value), 1);
        }
        Check.sentence("Promise 22:", "FULL if the text has 120 bytes");
        for (int length = 3; length <= 120; length++) {
            Check.due("append at " + length, x.append(32), length);
        }
        for (int times = 1; times <= 3; times++) {
            Check.due("append to 120 bytes", x.append(32), -4);
            Check.due("then errorCount(-4)", x.errorCount(-4), times);
        }
        Check.due("the length", x.clearText(), 120);
        Check.due("append to the text that was emptied", x.append(32), 1);
    }

    private static void clearText() {
        Check.sentence("Promise 23:", "Returns the length that it had");
        for (int length = 0; length <= 120; length++) {
            HornEngine x = new HornEngine();
            for (int i = 0; i < length; i++) {
                x.append('1');
            }
            Check.due("clearText() of " + length + " bytes", x.clearText(), length);
            Check.due("clearText() again", x.clearText(), 0);
            Check.due("parse()", x.parse(), 0);
        }
        HornEngine full = States.full();
        full.append(32);
        Check.due("clearText() after a 121st byte", full.clearText(), 120);
        HornEngine busy = States.busy();
        busy.clearText();
        Check.due("clearText() leaves the rules", busy.rules(), 4);
        Check.due("clearText() leaves the saved states", busy.undo(), 3);
        Check.due("clearText() is not taken back", busy.clearText(), 0);
    }

    private static void parse() {
        Check.sentence("Promise 24:", "The text stays as it is");
        HornEngine x = new HornEngine();
        Texts.put(x, "1:;2:1;");
        for (int times = 1; times <= 12; times++) {
            Check.due("parse()", x.parse(), 2);
            Check.due("rules()", x.rules(), 2 * times);
        }
        Check.due("parse() without room", x.parse(), -10);
        Check.due("clearText()", x.clearText(), 7);
        Check.sentence("Promise 24:", "it saves one state for all rules");
        for (int rules = 0; rules <= 24; rules++) {
            HornEngine all = new HornEngine();
            Check.due("parse() of " + rules + " rules", Texts.parse(all, "3:;".repeat(rules)), rules);
            Check.due("undo()", all.undo(), 0);
            Check.due("rules() after it", all.rules(), 0);
            Check.due("undo() again", all.undo(), -5);
        }
        Check.sentence("Promise 24:", "-10 minus the syntax error position if there is a syntax error");
        for (int place = 0; place < 120; place++) {
            HornEngine wrong = new HornEngine();
            Check.due("an error at " + place, Texts.parse(wrong, " ".repeat(place) + "x"), -10 - place);
        }
        Check.due("an error at 120", Texts.parse(new HornEngine(), " ".repeat(119) + "1"), -130);
    }

    private static void undo() {
        Check.sentence("Promise 25:",
            "Returns the number of saved states that remain; NOTHING_SAVED if there is none");
        Check.due("undo() of a new object", new HornEngine().undo(), -5);
        HornEngine x = States.facts(4);
        for (int left = 3; left >= 0; left--) {
            Check.due("undo()", x.undo(), left);
            Check.due("rules()", x.rules(), left);
        }
        for (int times = 1; times <= 3; times++) {
            Check.due("undo() of none", x.undo(), -5);
            Check.due("then errorCount(-5)", x.errorCount(-5), times);
        }
        x.addRule(9, 0);
        Check.due("undo() after a new call", x.undo(), 0);
        Check.sentence("Promise 25:", "Restores the most recently saved state and removes it from the saved states");
        HornEngine twice = States.facts(2);
        twice.undo();
        Check.due("an undo is not undone: undo()", twice.undo(), 0);
        Check.due("an undo is not undone: rules()", twice.rules(), 0);
    }

    private static void errorCount() {
        Check.sentence("Promise 26:", "an error code, -5 to -2");
        HornEngine x = States.full();
        for (int code = -5; code <= -2; code++) {
            Check.due("errorCount(" + code + ")", x.errorCount(code), 1);
        }
        Check.due("asking counts nothing", x.errorCount(-2), 1);
        Check.sentence("Promise 26:", "this increments the counter of OUT_OF_RANGE");
        int refused = 1;
        for (int code : new int[] {MIN, MIN + 1, -7, -6, -1, 0, 1, 2, 3, 4, 5, MAX - 1, MAX}) {
            Check.due("errorCount(" + code + ")", x.errorCount(code), -2);
            Check.due("then errorCount(-2)", x.errorCount(-2), ++refused);
            Check.due("then errorCount(-3)", x.errorCount(-3), 1);
            Check.due("then errorCount(-4)", x.errorCount(-4), 1);
            Check.due("then errorCount(-5)", x.errorCount(-5), 1);
        }
    }

    private static void digest() {
        Check.sentence("Promise 27:", "with the overflow of long arithmetic ignored");
        BigInteger small = hash(new HornEngine(), 0, 0, 0);
        Check.holds("a new object's hash is just below the overflow", small.bitLength() <= 63
            && small.multiply(BigInteger.valueOf(31)).bitLength() > 63);
        Check.due("digest() of a new object", new HornEngine().digest(), small.longValueExact());
        HornEngine one = States.facts(1);
        BigInteger great = hash(one, 0, 0, 1);
        Check.holds("a fact's hash is above the overflow", great.bitLength() > 63);
        Check.due("digest() of a fact", one.digest(), great.longValue());
        Check.sentence("Promise 27:", "for each of the following values v, set h = 31 * h + v");
        Check.due("digest() of a busy object", States.busy().digest(), hash(States.busy(), 4, 0x70, 4).longValue());
        Check.due("digest() of a worn object", States.worn().digest(), hash(States.worn(), 4, 0x30, 0).longValue());
        Check.due("digest() of a full object", States.full().digest(), hash(States.full(), 120, 0xFF, 4).longValue());
        Check.due("digest() of the chain", States.chain().digest(), hash(States.chain(), 0, 0, 4).longValue());
        Check.due("digest() of the ring", States.ring().digest(), hash(States.ring(), 0, 0, 4).longValue());
        Check.due("digest() of 24 facts", States.facts(24).digest(), hash(States.facts(24), 0, 0, 4).longValue());
        HornEngine x = States.busy();
        Check.due("digest() changes nothing", x.digest(), x.digest());
        Check.due("digest() saves nothing", x.undo(), 3);
    }

    /** The hash without an overflow, from the engine's own answers and from what no call tells without changing it. */
    private static BigInteger hash(HornEngine x, int textLength, int assumable, int saved) {
        BigInteger h = BigInteger.valueOf(2719);
        for (int code = -2; code >= -5; code--) {
            h = mix(h, x.errorCount(code));
        }
        int count = x.rules();
        h = mix(mix(mix(h, textLength), assumable), count);
        for (int rule = 0; rule < count; rule++) {
            h = mix(mix(h, x.head(rule)), x.body(rule));
            h = mix(mix(h, x.overDeleted(rule)), x.lost(rule));
        }
        int model = x.model();
        h = mix(h, model);
        for (int index = 0; x.derived(index) != -1; index++) {
            h = mix(h, x.derived(index));
        }
        for (int index = 0; x.fired(index) != -1; index++) {
            h = mix(h, x.fired(index));
        }
        for (int atom = 0; atom < 16; atom++) {
            if ((model >> atom & 1) == 1) {
                h = mix(mix(mix(h, x.level(atom)), x.reason(atom)), x.necessary(atom));
            }
        }
        return mix(mix(h, x.cyclicAtoms()), saved);
    }

    private static BigInteger mix(BigInteger h, int value) {
        return h.multiply(BigInteger.valueOf(31)).add(BigInteger.valueOf(value));
    }
}
