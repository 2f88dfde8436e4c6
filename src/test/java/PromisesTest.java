/** Each promise of the document by hand-made answers: ordinary inputs, the edges that it names, wrong inputs. */
final class PromisesTest {
    private static final int MIN = Integer.MIN_VALUE;
    private static final int MAX = Integer.MAX_VALUE;
    private static final int[] NO_ATOMS = {-1, 16, 17, 32, 64, MIN, MAX};

    public static void main(String[] args) {
        newObject();
        addRule();
        removeRule();
        rulesHeadBody();
        model();
        derivedAndFired();
        level();
        modelShareBits();
        supports();
        reason();
        necessary();
        dependenciesAndCycles();
        overDeletedAndLost();
        gained();
        setAssumable();
        explanation();
        appendAndClear();
        parseGood();
        parseBad();
        parseLimits();
        undo();
        errorCount();
        errorsChangeNothing();
        digest();
        Check.end();
    }

    private static HornEngine fullEngine() {
        HornEngine x = new HornEngine();
        for (int i = 0; i < 24; i++) {
            Check.due("addRule number " + i, x.addRule(i % 16, 0), i);
        }
        return x;
    }

    private static void newObject() {
        HornEngine x = new HornEngine();
        Check.due("new: rules()", x.rules(), 0);
        Check.due("new: model()", x.model(), 0);
        Check.due("new: cyclicAtoms()", x.cyclicAtoms(), 0);
        Check.due("new: modelShareBits()", x.modelShareBits(), 0);
        Check.due("new: derived(0)", x.derived(0), -1);
        Check.due("new: fired(0)", x.fired(0), -1);
        Check.due("new: clearText()", x.clearText(), 0);
        Check.due("new: setAssumable(0)", x.setAssumable(0), 0);
        for (int code = -5; code <= -2; code++) {
            Check.due("new: errorCount(" + code + ")", x.errorCount(code), 0);
        }
        HornEngine y = new HornEngine();
        y.addRule(3, 0);
        Check.due("objects share nothing: rules()", x.rules(), 0);
    }

    private static void addRule() {
        HornEngine x = new HornEngine();
        Check.due("addRule(0, 0)", x.addRule(0, 0), 0);
        Check.due("addRule(15, 0x8421)", x.addRule(15, 0x8421), 1);
        Check.due("an equal rule again", x.addRule(15, 0x8421), 2);
        Check.due("five atoms in the body", x.addRule(0, 31), -2);
        Check.due("sixteen atoms in the body", x.addRule(0, 65535), -2);
        Check.due("body -1", x.addRule(0, -1), -2);
        Check.due("body 65536", x.addRule(0, 65536), -2);
        Check.due("body MIN", x.addRule(0, MIN), -2);
        Check.due("body MAX", x.addRule(0, MAX), -2);
        for (int atom : NO_ATOMS) {
            Check.due("addRule(" + atom + ", 0)", x.addRule(atom, 0), -2);
        }
        Check.due("rules() after errors", x.rules(), 3);
        HornEngine full = fullEngine();
        Check.due("the 25th rule", full.addRule(0, 0), -4);
        Check.due("range is checked before room (head)", full.addRule(16, 0), -2);
        Check.due("range is checked before room (body)", full.addRule(0, 31), -2);
        Check.due("rules() when full", full.rules(), 24);
        Check.due("errorCount(FULL)", full.errorCount(-4), 1);
        Check.due("errorCount(OUT_OF_RANGE)", full.errorCount(-2), 2);
    }

    private static void removeRule() {
        HornEngine x = Texts.engine("0:;1:0;2:1;3:2;");
        Check.due("removeRule(4)", x.removeRule(4), -2);
        Check.due("removeRule(-1)", x.removeRule(-1), -2);
        Check.due("removeRule(MIN)", x.removeRule(MIN), -2);
        Check.due("removeRule(MAX)", x.removeRule(MAX), -2);
        Check.due("removeRule(1)", x.removeRule(1), 3);
        Check.due("head(0) after it", x.head(0), 0);
        Check.due("head(1) after it", x.head(1), 2);
        Check.due("body(1) after it", x.body(1), 2);
        Check.due("head(2) after it", x.head(2), 3);
        Check.due("head(3) after it", x.head(3), -2);
        Check.due("removeRule of the last", x.removeRule(2), 2);
        Check.due("removeRule of the first", x.removeRule(0), 1);
        Check.due("head(0) at the end", x.head(0), 2);
        Check.due("removeRule of the only one", x.removeRule(0), 0);
        Check.due("removeRule of none", x.removeRule(0), -2);
        HornEngine full = fullEngine();
        Check.due("removeRule(0) when full", full.removeRule(0), 23);
        Check.due("head(22)", full.head(22), 23 % 16);
        Check.due("room again", full.addRule(9, 0), 23);
    }

    private static void rulesHeadBody() {
        HornEngine x = new HornEngine();
        x.addRule(7, 0x8421);
        x.addRule(15, 0);
        Check.due("rules()", x.rules(), 2);
        Check.due("head(0)", x.head(0), 7);
        Check.due("body(0)", x.body(0), 0x8421);
        Check.due("head(1)", x.head(1), 15);
        Check.due("body(1)", x.body(1), 0);
        int errors = 0;
        for (int rule : new int[] {-1, 2, 23, 24, MIN, MAX}) {
            Check.due("head(" + rule + ")", x.head(rule), -2);
            Check.due("body(" + rule + ")", x.body(rule), -2);
            errors += 2;
            Check.due("their count", x.errorCount(-2), errors);
        }
    }

    private static void model() {
        Check.due("a cycle alone", Texts.engine("1:2;2:1;").model(), 0);
        Check.due("a head in its own body", Texts.engine("1:1;").model(), 0);
        Check.due("a chain against its order", Texts.engine("3:2;2:1;1:0;0:;").model(), 15);
        Check.due("a body half known", Texts.engine("0:;2:0,1;").model(), 1);
        StringBuilder longest = new StringBuilder();
        for (int atom = 15; atom > 0; atom--) {
            longest.append(atom).append(':').append(atom - 1).append(';');
        }
        Check.due("the longest chain against its order", Texts.engine(longest.append("0:;").toString()).model(), 65535);
        Check.due("all facts", fullEngine().model(), 65535);
    }

    private static void derivedAndFired() {
        HornEngine x = Texts.engine("3:1,2;1:;4:0;2:;1:;4:2;0:3;");
        int[] atoms = {1, 2, 3, 4, 0};
        int[] rules = {1, 3, 4, 0, 5, 6, 2};
        for (int i = 0; i < atoms.length; i++) {
            Check.due("derived(" + i + ")", x.derived(i), atoms[i]);
        }
        for (int i = 0; i < rules.length; i++) {
            Check.due("fired(" + i + ")", x.fired(i), rules[i]);
        }
        Check.due("derived behind the end", x.derived(5), -1);
        Check.due("fired behind the end", x.fired(7), -1);
        Check.due("derived(MAX)", x.derived(MAX), -1);
        Check.due("fired(MAX)", x.fired(MAX), -1);
        Check.due("derived(-1)", x.derived(-1), -2);
        Check.due("derived(MIN)", x.derived(MIN), -2);
        Check.due("fired(-1)", x.fired(-1), -2);
        Check.due("fired(MIN)", x.fired(MIN), -2);
        Check.due("NONE is no error", x.errorCount(-2), 4);
        HornEngine full = fullEngine();
        Check.due("the last atom of sixteen", full.derived(15), 15);
        Check.due("no seventeenth", full.derived(16), -1);
        Check.due("the last rule of 24", full.fired(23), 23);
        Check.due("no 25th", full.fired(24), -1);
    }

    private static void level() {
        HornEngine x = Texts.engine("0:;1:0;2:1;3:2;3:0;4:3,2;5:5;6:4;6:;");
        int[] levels = {0, 1, 2, 1, 3, -3, 0};
        for (int atom = 0; atom < levels.length; atom++) {
            Check.due("level(" + atom + ")", x.level(atom), levels[atom]);
        }
        for (int atom : NO_ATOMS) {
            Check.due("level(" + atom + ")", x.level(atom), -2);
        }
        Check.due("errorCount(NOT_DERIVED)", x.errorCount(-3), 1);
        Check.due("errorCount(OUT_OF_RANGE)", x.errorCount(-2), NO_ATOMS.length);
        HornEngine chain = new HornEngine();
        for (int atom = 15; atom > 0; atom--) {
            chain.addRule(atom, 1 << (atom - 1));
        }
        chain.addRule(0, 0);
        Check.due("the greatest level", chain.level(15), 15);
    }

    private static void modelShareBits() {
        HornEngine x = new HornEngine();
        for (int atoms = 0; atoms <= 16; atoms++) {
            Check.due("modelShareBits() of " + atoms, x.modelShareBits(), Float.floatToIntBits((float) atoms / 16.0f));
            x.addRule(atoms % 16, 0);
        }
        Check.due("with a rule that does not fire", Texts.engine("0:;1:2;").modelShareBits(),
            Float.floatToIntBits(1.0f / 16.0f));
    }

    private static void supports() {
        HornEngine x = Texts.engine("0:;1:0;1:2;1:;1:0,3;3:1;0:3;");
        Check.due("supports(0)", x.supports(0), 65);
        Check.due("supports(1)", x.supports(1), 26);
        Check.due("supports(2)", x.supports(2), 0);
        Check.due("supports(15)", x.supports(15), 0);
        for (int atom : NO_ATOMS) {
            Check.due("supports(" + atom + ")", x.supports(atom), -2);
        }
        Check.due("no NOT_DERIVED", x.errorCount(-3), 0);
        Check.due("the highest rule", fullEngine().supports(7), (1 << 7) | (1 << 23));
    }

    private static void reason() {
        HornEngine x = Texts.engine("0:;1:;2:0;2:1;3:2;5:6;");
        Check.due("higher rules are left out first", x.reason(2), 5);
        Check.due("reason(3)", x.reason(3), 21);
        Check.due("reason(0)", x.reason(0), 1);
        Check.due("reason(5)", x.reason(5), -3);
        Check.due("reason(15)", x.reason(15), -3);
        HornEngine equal = Texts.engine("4:;4:;4:;");
        Check.due("of equal facts the first stays", equal.reason(4), 1);
        HornEngine longer = Texts.engine("0:;1:0;2:1;2:;");
        Check.due("minimal by removal, not the smallest", longer.reason(2), 7);
        for (int atom : NO_ATOMS) {
            Check.due("reason(" + atom + ")", x.reason(atom), -2);
        }
    }

    private static void necessary() {
        HornEngine x = Texts.engine("0:;1:0;2:1;2:0;3:2;4:;4:;");
        Check.due("necessary(0)", x.necessary(0), 1);
        Check.due("necessary(1)", x.necessary(1), 3);
        Check.due("necessary(2)", x.necessary(2), 1);
        Check.due("necessary(3)", x.necessary(3), 17);
        Check.due("necessary(4)", x.necessary(4), 0);
        Check.due("necessary(5)", x.necessary(5), -3);
        for (int atom : NO_ATOMS) {
            Check.due("necessary(" + atom + ")", x.necessary(atom), -2);
        }
    }

    private static void dependenciesAndCycles() {
        HornEngine x = Texts.engine("0:1,2;1:3;3:4;5:5;6:7;7:8;8:6;9:6;2:;");
        Check.due("dependencies(0)", x.dependencies(0), 30);
        Check.due("dependencies(1)", x.dependencies(1), 24);
        Check.due("dependencies(2)", x.dependencies(2), 0);
        Check.due("dependencies(5)", x.dependencies(5), 32);
        Check.due("dependencies(6)", x.dependencies(6), 448);
        Check.due("dependencies(9)", x.dependencies(9), 448);
        Check.due("dependencies(15)", x.dependencies(15), 0);
        Check.due("cyclicAtoms()", x.cyclicAtoms(), 32 | 448);
        for (int atom : NO_ATOMS) {
            Check.due("dependencies(" + atom + ")", x.dependencies(atom), -2);
        }
        HornEngine ring = new HornEngine();
        for (int atom = 0; atom < 16; atom++) {
            ring.addRule(atom, 1 << ((atom + 1) % 16));
        }
        Check.due("a ring of sixteen: dependencies(0)", ring.dependencies(0), 65535);
        Check.due("a ring of sixteen: cyclicAtoms()", ring.cyclicAtoms(), 65535);
        ring.removeRule(3);
        Check.due("the ring cut: dependencies(4)", ring.dependencies(4), 65535 & ~16);
        Check.due("the ring cut: cyclicAtoms()", ring.cyclicAtoms(), 0);
    }

    private static void overDeletedAndLost() {
        HornEngine x = Texts.engine("0:;1:0;2:1;2:;3:2,4;5:2;5:3;1:5;");
        int[] over = {1 | 2 | 4 | 32, 2 | 4 | 32, 4 | 32 | 2, 4 | 32 | 2, 0, 32 | 2 | 4, 0, 2 | 4 | 32};
        int[] lost = {1, 0, 0, 0, 0, 32, 0, 0};
        for (int rule = 0; rule < over.length; rule++) {
            Check.due("overDeleted(" + rule + ")", x.overDeleted(rule), over[rule]);
            Check.due("lost(" + rule + ")", x.lost(rule), lost[rule]);
        }
        for (int rule : new int[] {-1, 8, 24, MIN, MAX}) {
            Check.due("overDeleted(" + rule + ")", x.overDeleted(rule), -2);
            Check.due("lost(" + rule + ")", x.lost(rule), -2);
        }
        HornEngine chain = Texts.engine("0:;1:0;2:1;");
        Check.due("lost of a chain's fact", chain.lost(0), 7);
        Check.due("lost of a chain's end", chain.lost(2), 4);
        HornEngine backwards = Texts.engine("4:3;3:2;2:1;1:0;0:;");
        Check.due("overDeleted against the order", backwards.overDeleted(4), 31);
        Check.due("a rule does not fire from its own head", Texts.engine("0:;1:0,1;").overDeleted(1), 0);
    }

    private static void gained() {
        HornEngine x = Texts.engine("0:;1:2;2:1;3:1,0;");
        Check.due("gained(1, 0)", x.gained(1, 0), 14);
        Check.due("gained(2, 1)", x.gained(2, 1), 14);
        Check.due("gained(3, 1)", x.gained(3, 1), 8);
        Check.due("gained(0, 0)", x.gained(0, 0), 0);
        Check.due("gained(3, 2)", x.gained(3, 2), 0);
        Check.due("a rule that has its head in its body", x.gained(5, 33), 0);
        Check.due("gained(15, 1)", x.gained(15, 1), 1 << 15);
        Check.due("five atoms", x.gained(0, 31), -2);
        Check.due("body -1", x.gained(0, -1), -2);
        Check.due("body 65536", x.gained(0, 65536), -2);
        for (int atom : NO_ATOMS) {
            Check.due("gained(" + atom + ", 0)", x.gained(atom, 0), -2);
        }
        Check.due("nothing is changed: rules()", x.rules(), 4);
        Check.due("nothing is changed: model()", x.model(), 1);
        Check.due("nothing more is saved: undo()", x.undo(), 0);
        HornEngine full = new HornEngine();
        for (int i = 0; i < 24; i++) {
            full.addRule(0, 0);
        }
        Check.due("without room", full.gained(1, 1), 2);
        Check.due("room is no matter", full.errorCount(-4), 0);
    }

    private static void setAssumable() {
        HornEngine x = new HornEngine();
        Check.due("eight atoms", x.setAssumable(0xFF00), 0);
        Check.due("nine atoms", x.setAssumable(0x1FF), -2);
        Check.due("-1", x.setAssumable(-1), -2);
        Check.due("65536", x.setAssumable(65536), -2);
        Check.due("MIN", x.setAssumable(MIN), -2);
        Check.due("the previous set", x.setAssumable(0), 0xFF00);
        Check.due("the previous set again", x.setAssumable(3), 0);
        Check.due("undo()", x.undo(), 2);
        Check.due("undo()", x.undo(), 1);
        Check.due("restored", x.setAssumable(1), 0xFF00);
        Check.due("assumable atoms are no facts", x.model(), 0);
    }

    private static void explanation() {
        HornEngine x = Texts.engine("0:;1:2,3;1:4,5;1:6,7,8;9:0;10:11;11:10;12:1,9;");
        Check.due("nothing assumable, derived", x.explanation(9), 0);
        Check.due("nothing assumable, not derived", x.explanation(1), -3);
        x.setAssumable(0x1FC);
        Check.due("the smaller number of two pairs", x.explanation(1), 12);
        Check.due("over other atoms", x.explanation(12), 12);
        Check.due("itself", x.explanation(8), 256);
        Check.due("no explanation", x.explanation(10), -3);
        x.setAssumable(0x1F0);
        Check.due("two atoms before three", x.explanation(1), 48);
        x.setAssumable(0x1C4);
        Check.due("three atoms", x.explanation(1), 448);
        x.setAssumable(0x1C6);
        Check.due("one atom before three", x.explanation(1), 2);
        x.setAssumable(1 << 11);
        Check.due("over a cycle", x.explanation(10), 1 << 11);
        x.setAssumable(1);
        Check.due("a derived atom that is assumable", x.explanation(0), 0);
        for (int atom : NO_ATOMS) {
            Check.due("explanation(" + atom + ")", x.explanation(atom), -2);
        }
        Check.due("errorCount(NOT_DERIVED)", x.errorCount(-3), 2);
        HornEngine high = Texts.engine("0:1,2;0:15;");
        high.setAssumable(0x8006);
        Check.due("fewer atoms before the smaller number", high.explanation(0), 0x8000);
        HornEngine eight = Texts.engine("12:0,1,2,3;13:4,5,6,7;14:12,13;");
        eight.setAssumable(255);
        Check.due("all eight", eight.explanation(14), 255);
        HornEngine full = fullEngine();
        Check.due("with 24 rules", full.explanation(3), 0);
    }

    private static void appendAndClear() {
        HornEngine x = new HornEngine();
        Check.due("append(0)", x.append(0), 1);
        Check.due("append(127)", x.append(127), 2);
        for (int value : new int[] {-1, 128, 256, MIN, MAX}) {
            Check.due("append(" + value + ")", x.append(value), -2);
        }
        for (int length = 3; length <= 120; length++) {
            Check.due("append at " + length, x.append(32), length);
        }
        Check.due("the 121st byte", x.append(32), -4);
        Check.due("range is checked before room", x.append(128), -2);
        Check.due("clearText()", x.clearText(), 120);
        Check.due("clearText() again", x.clearText(), 0);
        Check.due("append after it", x.append(48), 1);
        Check.due("text is not undoable", x.undo(), -5);
        Check.due("errorCount(FULL)", x.errorCount(-4), 1);
    }

    private static void parseGood() {
        HornEngine x = new HornEngine();
        Check.due("a text without rules", Texts.parse(x, ""), 0);
        Check.due("it saves a state", x.undo(), 0);
        Check.due("spaces alone", Texts.parse(x, "   "), 0);
        Check.due("spaces everywhere", Texts.parse(x, " 1 : 2 , 15 , 0 ; 07 :  ; "), 2);
        Check.due("head(0)", x.head(0), 1);
        Check.due("body(0)", x.body(0), 0x8005);
        Check.due("head(1)", x.head(1), 7);
        Check.due("body(1)", x.body(1), 0);
        Check.due("the text stays", x.parse(), 2);
        Check.due("rules()", x.rules(), 4);
        Check.due("one state for all rules", x.undo(), 2);
        Check.due("rules() after undo", x.rules(), 2);
        Check.due("two digits with a zero", Texts.parse(x, "00:01,09;"), 1);
        Check.due("its body", x.body(2), 0x202);
        Check.due("the text's length", x.clearText(), 9);
        Check.due("a head in its own body, four atoms", Texts.parse(x, "3:3,2,1,0;"), 1);
        Check.due("its body", x.body(3), 15);
    }

    private static void parseBad() {
        String[] texts = {
            "1", "1:", "1:2", "1:2,", "1:;2", ":;", ";", "1;", ",", "1:,", "1:2,;", "1:2 3;", "1 2:;", "1::;", "1:;;",
            "16:;", "99:;", "160:;", "015:;", "0000:;", "1:16;", "1:123;", "1:2,02;", "1:2,022;", "1:2,22;", "1:2,2",
            "1:1,2,3,4,5;", "1:1,2,3,4,999;", "1:1,2,3,4,1;", "1:1,2,3,4,;", "1:1,2,3,4,", "1:1,2,3,4, 5;", "16", "1:16",
            "1:2\t;", "a", "1:-2;", "-1:;", "1:2;;", "1:2,,3;", "1:;x", "  1:;  2", "1:2.", "1:2:3;", "1/;", "1:2\u0000;",
            "1:15,15 ;", "1:;16", "12 :;3 4:;", "1:2,3 ,2;"
        };
        int[] places = {
            1, 2, 3, 4, 4, 0, 0, 1, 0, 2, 4, 4, 2, 2, 3,
            0, 0, 2, 2, 2, 2, 4, 4, 6, 4, 4,
            10, 10, 10, 10, 10, 11, 0, 2,
            3, 0, 2, 0, 4, 4, 3, 8, 3, 3, 1, 3,
            5, 3, 7, 7
        };
        Check.due("as many places as texts", places.length, texts.length);
        for (int i = 0; i < texts.length; i++) {
            HornEngine x = new HornEngine();
            x.addRule(5, 0);
            Check.due("parse() of \"" + texts[i] + "\"", Texts.parse(x, texts[i]), -10 - places[i]);
            Check.due("then rules()", x.rules(), 1);
            Check.due("then saved states", x.undo(), 0);
            for (int code = -5; code <= -2; code++) {
                Check.due("then errorCount(" + code + ")", x.errorCount(code), 0);
            }
        }
    }

    private static void parseLimits() {
        HornEngine x = new HornEngine();
        Check.due("24 rules", Texts.parse(x, "0:;".repeat(24)), 24);
        Check.due("spaces when full", Texts.parse(x, "  "), 0);
        Check.due("a rule when full", Texts.parse(x, "  0:;"), -12);
        Check.due("a number out of range when full", Texts.parse(x, " 999"), -11);
        Check.due("another sign when full", Texts.parse(x, " x"), -11);
        HornEngine y = new HornEngine();
        Check.due("25 rules", Texts.parse(y, "0:;".repeat(25)), -10 - 72);
        Check.due("none of them was added", y.rules(), 0);
        Check.due("40 rules", Texts.parse(y, "0:;".repeat(40)), -10 - 72);
        y.addRule(1, 0);
        Check.due("24 rules and one that exists", Texts.parse(y, "0:;".repeat(24)), -10 - 69);
        Check.due("23 rules and one that exists", Texts.parse(y, "0:;".repeat(23)), 23);
        Check.due("the first rule stays", y.head(0), 1);
        Check.due("rules()", y.rules(), 24);
        Check.due("an unended text of 120 bytes", Texts.parse(new HornEngine(), "0:;" + " ".repeat(116) + "1"), -130);
    }

    private static void undo() {
        HornEngine x = new HornEngine();
        Check.due("undo() of nothing", x.undo(), -5);
        for (int i = 0; i < 6; i++) {
            x.addRule(i, 0);
        }
        for (int left = 3; left >= 0; left--) {
            Check.due("undo()", x.undo(), left);
            Check.due("rules() after it", x.rules(), left + 2);
        }
        Check.due("undo() of a dropped state", x.undo(), -5);
        Check.due("rules() stays", x.rules(), 2);
        Check.due("errorCount(NOTHING_SAVED)", x.errorCount(-5), 2);
        x.setAssumable(5);
        x.removeRule(0);
        x.append(48);
        x.head(99);
        Check.due("undo() of removeRule", x.undo(), 1);
        Check.due("its rule is back", x.head(0), 0);
        Check.due("the next one too", x.head(1), 1);
        Check.due("undo() of setAssumable", x.undo(), 0);
        Check.due("the text stays", x.clearText(), 1);
        Check.due("the counters stay", x.errorCount(-2), 1);
        Check.due("the assumable atoms are back", x.setAssumable(5), 0);
        Check.due("a call that changes nothing", x.setAssumable(5), 5);
        Check.due("saves a state too", x.undo(), 1);
        x.addRule(9, 16);
        x.undo();
        Check.due("a state saved after undo", x.addRule(8, 2), 2);
        Check.due("is the newest", x.undo(), 1);
        Check.due("rules()", x.rules(), 2);
    }

    private static void errorCount() {
        HornEngine x = new HornEngine();
        int errors = 0;
        for (int code : new int[] {-1, 0, -6, 1, MIN, MAX}) {
            Check.due("errorCount(" + code + ")", x.errorCount(code), -2);
            errors++;
            Check.due("its count", x.errorCount(-2), errors);
        }
        x.level(0);
        x.reason(0);
        x.necessary(0);
        x.explanation(0);
        x.undo();
        Check.due("errorCount(-3)", x.errorCount(-3), 4);
        Check.due("errorCount(-4)", x.errorCount(-4), 0);
        Check.due("errorCount(-5)", x.errorCount(-5), 1);
        Check.due("errorCount(-2)", x.errorCount(-2), 6);
    }

    private static void errorsChangeNothing() {
        HornEngine x = Texts.engine("0:;1:0;");
        x.addRule(16, 0);
        x.removeRule(2);
        x.setAssumable(-1);
        x.append(-1);
        Check.due("rules()", x.rules(), 2);
        Check.due("no state was saved", x.undo(), 0);
        Check.due("clearText()", x.clearText(), 7);
        Check.due("errorCount(-2)", x.errorCount(-2), 4);
    }

    private static void digest() {
        long start = 2719;
        for (int i = 0; i < 10; i++) {
            start *= 31;
        }
        Check.due("digest() of a new object", new HornEngine().digest(), start);
        HornEngine x = new HornEngine();
        x.addRule(3, 0);
        long[] values = {0, 0, 0, 0, 0, 0, 1, 3, 0, 8, 8, 8, 3, 0, 0, 1, 1, 0, 1};
        Check.due("digest() of one fact", x.digest(), hash(values));
        x.head(1);
        x.head(1);
        x.level(0);
        x.append(48);
        x.setAssumable(6);
        x.addRule(4, 8);
        x.addRule(5, 32);
        long[] more = {2, 1, 0, 0, 1, 6, 3, 3, 0, 24, 24, 4, 8, 16, 16, 5, 32, 0, 0,
            24, 3, 4, 0, 1, 0, 1, 1, 1, 3, 3, 32, 4};
        Check.due("digest() of three rules", x.digest(), hash(more));
        Check.due("digest() changes nothing", x.digest(), hash(more));
        HornEngine full = new HornEngine();
        for (int i = 0; i < 24; i++) {
            full.addRule(2, 0);
        }
        full.addRule(2, 0);
        for (int i = 0; i < 5; i++) {
            full.undo();
        }
        Check.due("digest() of equal facts and errors", full.digest(), hash(valuesOfFacts(full.rules())));
    }

    private static long hash(long[] values) {
        long h = 2719;
        for (long value : values) {
            h = 31 * h + value;
        }
        return h;
    }

    /** What the digest takes if each rule is the fact 2, no state is saved, and FULL and NOTHING_SAVED came once. */
    private static long[] valuesOfFacts(int rules) {
        long[] values = new long[4 + 3 + 4 * rules + 2 + rules + 3 + 2];
        values[2] = 1;
        values[3] = 1;
        values[6] = rules;
        int at = 7;
        for (int rule = 0; rule < rules; rule++) {
            values[at] = 2;
            values[at + 2] = 4;
            at += 4;
        }
        values[at++] = 4;
        values[at++] = 2;
        for (int rule = 0; rule < rules; rule++) {
            values[at++] = rule;
        }
        values[at + 1] = 1;
        return values;
    }
}
