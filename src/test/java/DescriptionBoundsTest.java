/** Each sentence of "Description" that names a boundary case, at the boundary and on both its sides; not the text. */
final class DescriptionBoundsTest {
    private static final int ALL = 65535;

    public static void main(String[] args) {
        rules();
        model();
        propagation();
        levels();
        reasons();
        deletion();
        insertion();
        abduction();
        cycles();
        Check.end();
    }

    // ---- Rules

    private static void rules() {
        sixteenAtoms();
        bodyOfFourAtoms();
        emptyBodyIsAFact();
        headInTheBody();
        atMost24Rules();
        numberedInOrder();
        equalRules();
    }

    private static void sixteenAtoms() {
        Check.sentence("Promises 2, 7:", "There are 16 atoms, numbered 0 to 15");
        for (int atom = -2; atom <= 17; atom++) {
            boolean isAtom = atom >= 0 && atom <= 15;
            HornEngine x = new HornEngine();
            Check.due("addRule(" + atom + ", 0)", x.addRule(atom, 0), isAtom ? 0 : -2);
            Check.due("then model()", x.model(), isAtom ? 1 << atom : 0);
        }
        for (int atom = 0; atom <= 17; atom++) {
            HornEngine x = new HornEngine();
            Check.due("addRule(0, bit " + atom + ")", x.addRule(0, 1 << atom), atom <= 15 ? 0 : -2);
        }
    }

    private static void bodyOfFourAtoms() {
        Check.sentence("Promises 2, 6, 19:", "a body, which is a set of 0 to 4 atoms");
        for (int body = -3; body <= ALL + 3; body++) {
            HornEngine x = new HornEngine();
            boolean good = body >= 0 && body <= ALL && Integer.bitCount(body) <= 4;
            Check.due("gained(3, " + body + ")", x.gained(3, body), good ? (body == 0 ? 8 : 0) : -2);
            Check.due("addRule(3, " + body + ")", x.addRule(3, body), good ? 0 : -2);
            Check.due("then rules()", x.rules(), good ? 1 : 0);
            Check.due("then body(0)", x.body(0), good ? body : -2);
        }
    }

    private static void emptyBodyIsAFact() {
        Check.sentence("Promises 2, 7, 10:", "A rule with an empty body is a fact");
        HornEngine fact = new HornEngine();
        fact.addRule(4, 0);
        Check.due("an empty body: model()", fact.model(), 16);
        Check.due("an empty body: level(4)", fact.level(4), 0);
        HornEngine rule = new HornEngine();
        rule.addRule(4, 1);
        Check.due("a body of one atom: model()", rule.model(), 0);
        Check.due("a body of one atom: fired(0)", rule.fired(0), -1);
    }

    private static void headInTheBody() {
        Check.sentence("Promises 2, 7, 24:", "The head may occur in the body");
        HornEngine x = new HornEngine();
        Check.due("the head alone", x.addRule(3, 8), 0);
        Check.due("the head as one of four atoms", x.addRule(3, 15), 1);
        Check.due("the head as one of five atoms", x.addRule(3, 31), -2);
        Check.due("the head in a text", Texts.parse(x, "3:3;15:15,3,2,1;"), 2);
        Check.due("model()", x.model(), 0);
        x.addRule(3, 0);
        Check.due("model() with the fact", x.model(), 8);
        Check.due("the fact fires first", x.fired(0), 4);
        Check.due("then the rule that has its head in its body", x.fired(1), 0);
        Check.due("then its equal", x.fired(2), 2);
        Check.due("and no more", x.fired(3), -1);
        Check.due("level(3)", x.level(3), 0);
    }

    private static void atMost24Rules() {
        Check.sentence("Promises 2, 4:", "There are at most 24 rules");
        for (int count = 22; count <= 24; count++) {
            HornEngine x = States.facts(count);
            Check.due("rules()", x.rules(), count);
            Check.due("one rule more", x.addRule(1, 1), count < 24 ? count : -4);
            Check.due("then rules()", x.rules(), count < 24 ? count + 1 : 24);
        }
        HornEngine x = States.facts(24);
        Check.due("removeRule(23)", x.removeRule(23), 23);
        Check.due("the 24th rule again", x.addRule(1, 1), 23);
        Check.due("the 25th again", x.addRule(1, 1), -4);
        Check.due("undo() makes room", x.undo(), 3);
        Check.due("the 24th rule", x.addRule(2, 2), 23);
        Check.due("its head", x.head(23), 2);
        Unchanged.butCounter("the 25th rule", States::full, e -> e.addRule(0, 0), -4);
    }

    private static void numberedInOrder() {
        Check.sentence("Promises 2, 5, 6:", "numbered from 0 in the order in which they were added");
        HornEngine x = new HornEngine();
        for (int rule = 0; rule < 24; rule++) {
            Check.due("addRule", x.addRule(rule % 16, 1 << (rule % 13)), rule);
        }
        for (int rule = 0; rule < 24; rule++) {
            Check.due("head(" + rule + ")", x.head(rule), rule % 16);
            Check.due("body(" + rule + ")", x.body(rule), 1 << (rule % 13));
        }
    }

    private static void equalRules() {
        Check.sentence("Promises 2, 3, 9, 12:", "Equal rules may occur several times");
        HornEngine x = new HornEngine();
        for (int rule = 0; rule < 24; rule++) {
            Check.due("addRule(7, 0)", x.addRule(7, 0), rule);
        }
        for (int rule = 0; rule < 24; rule++) {
            Check.due("each of them fires", x.fired(rule), rule);
        }
        Check.due("supports(7)", x.supports(7), 0xFFFFFF);
        Check.due("derived(0)", x.derived(0), 7);
        Check.due("derived(1)", x.derived(1), -1);
        for (int left = 23; left >= 1; left--) {
            Check.due("lost(0) of several", x.lost(0), 0);
            Check.due("removeRule(0)", x.removeRule(0), left);
            Check.due("model()", x.model(), 128);
        }
        Check.due("lost(0) of the only one", x.lost(0), 128);
        Check.due("removeRule(0)", x.removeRule(0), 0);
        Check.due("model() without them", x.model(), 0);
        Check.due("equal rules of a text", Texts.parse(x, "7:1,2;7:2,1;7:1,2;"), 3);
        Check.due("body(0)", x.body(0), 6);
        Check.due("body(2)", x.body(2), 6);
    }

    // ---- Model

    private static void model() {
        Check.sentence("Promise 7:",
            "the least set of atoms that contains the head of each rule whose body is a subset of the set");
        Check.due("no rules", new HornEngine().model(), 0);
        Check.due("a cycle of one", Texts.engine("1:1;").model(), 0);
        Check.due("a cycle of two", Texts.engine("1:2;2:1;").model(), 0);
        Check.due("a ring of sixteen", States.ring().model(), 0);
        Check.due("three of four atoms", Texts.engine("0:;1:;2:;9:0,1,2,3;").model(), 7);
        Check.due("four of four atoms", Texts.engine("0:;1:;2:;9:0,1,2,3;3:;").model(), 527);
        Check.due("fifteen atoms", States.facts(15).model(), 0x7FFF);
        Check.due("sixteen atoms", States.facts(16).model(), ALL);
        Check.due("the longest chain", States.chain().model(), ALL);
        HornEngine cut = States.chain();
        cut.removeRule(0);
        Check.due("the longest chain but one", cut.model(), 0x7FFF);
    }

    // ---- Propagation

    private static void propagation() {
        emptyQueue();
        counterOfFour();
        headsOnlyOnce();
        factsFirst();
        decreasesInOrder();
        longestOrder();
    }

    private static void emptyQueue() {
        Check.sentence("Promises 8, 9:", "there is a queue of atoms, initially empty");
        HornEngine x = new HornEngine();
        Check.due("derived(0) without rules", x.derived(0), -1);
        Check.due("fired(0) without rules", x.fired(0), -1);
        x.addRule(1, 1);
        x.addRule(0, 2);
        Check.due("derived(0) without facts", x.derived(0), -1);
        Check.due("fired(0) without facts", x.fired(0), -1);
        x.addRule(0, 0);
        Check.due("derived(0) with a fact", x.derived(0), 0);
        Check.due("fired(0) with a fact", x.fired(0), 2);
        x.undo();
        Check.due("derived(0) without it again", x.derived(0), -1);
        Check.due("fired(0) without it again", x.fired(0), -1);
    }

    private static void counterOfFour() {
        Check.sentence("Promises 8, 9:", "Each rule has a counter, initially the number of atoms in its body");
        HornEngine x = Texts.engine("5:0,1,2,3;0:;1:;2:;3:;6:3;7:0;8:9,0,1,2;");
        orders(x, new int[] {0, 1, 2, 3, 7, 5, 6}, new int[] {1, 2, 3, 4, 6, 0, 5});
        HornEngine gone = Texts.engine("0:;1:;5:0,1,2;");
        Check.due("a counter that has come down to 1", gone.fired(2), -1);
        gone.removeRule(2);
        Check.due("its rule is gone", gone.fired(2), -1);
        gone.addRule(6, 3);
        orders(gone, new int[] {0, 1, 6}, new int[] {0, 1, 2});
        gone.undo();
        Check.due("a rule that fired is gone", gone.fired(2), -1);
    }

    private static void headsOnlyOnce() {
        Check.sentence("Promises 8, 9:", "When a rule fires and its head has not been put into the queue before");
        orders(Texts.engine("0:;0:;"), new int[] {0}, new int[] {0, 1});
        orders(Texts.engine("0:;1:0;0:1;1:0;"), new int[] {0, 1}, new int[] {0, 1, 3, 2});
        orders(Texts.engine("0:;0:0;"), new int[] {0}, new int[] {0, 1});
    }

    private static void factsFirst() {
        Check.sentence("Promises 8, 9:", "First, all facts fire in the order of their numbers");
        orders(Texts.engine("3:2;2:;1:0;0:;"), new int[] {2, 0, 3, 1}, new int[] {1, 3, 0, 2});
        HornEngine last = new HornEngine();
        for (int rule = 0; rule < 23; rule++) {
            last.addRule(1, 1);
        }
        last.addRule(0, 0);
        Check.due("a fact that is the last rule of 24", last.fired(0), 23);
        Check.due("then the first rule", last.fired(1), 0);
        Check.due("at last the 23rd", last.fired(23), 22);
        Check.due("and no more", last.fired(24), -1);
    }

    private static void decreasesInOrder() {
        Check.sentence("Promises 8, 9:",
            "for each rule that has the atom in its body, in the order of their numbers");
        orders(Texts.engine("4:1,0;0:;3:0;1:;2:1;5:0,1;"), new int[] {0, 1, 3, 4, 2, 5}, new int[] {1, 3, 2, 0, 4, 5});
    }

    private static void longestOrder() {
        Check.sentence("Promises 8, 9:", "The atoms that are put into the queue are the model");
        HornEngine x = States.chain();
        for (int index = 0; index < 16; index++) {
            Check.due("derived(" + index + ")", x.derived(index), index);
            Check.due("fired(" + index + ")", x.fired(index), 15 - index);
        }
        Check.due("derived(16)", x.derived(16), -1);
        Check.due("fired(16)", x.fired(16), -1);
    }

    private static void orders(HornEngine x, int[] atoms, int[] rules) {
        for (int i = 0; i <= atoms.length; i++) {
            Check.due("derived(" + i + ")", x.derived(i), i < atoms.length ? atoms[i] : -1);
        }
        for (int i = 0; i <= rules.length; i++) {
            Check.due("fired(" + i + ")", x.fired(i), i < rules.length ? rules[i] : -1);
        }
    }

    // ---- Levels

    private static void levels() {
        Check.sentence("Promise 10:",
            "0 for a fact, and otherwise 1 more than the greatest level of the atoms in its body");
        HornEngine x = Texts.engine("0:;1:0;2:1;3:0,2;4:0,1;5:0;");
        int[] levels = {0, 1, 2, 3, 2, 1};
        for (int atom = 0; atom < levels.length; atom++) {
            Check.due("level(" + atom + ")", x.level(atom), levels[atom]);
        }
        HornEngine chain = States.chain();
        for (int atom = 0; atom < 16; atom++) {
            Check.due("level(" + atom + ") in the longest chain", chain.level(atom), atom);
        }
        Check.sentence("Promise 10:",
            "the least level that a rule with this head has whose body is a subset of the model");
        Check.due("two levels, the least first", Texts.engine("0:;1:0;2:1;3:0;3:2;").level(3), 1);
        Check.due("two levels, the least last", Texts.engine("0:;1:0;2:1;3:2;3:0;").level(3), 1);
        Check.due("a body outside the model", Texts.engine("0:;1:0;2:1;3:2;3:9;").level(3), 3);
        Check.due("a fact beside a rule", Texts.engine("0:;3:0;3:;").level(3), 0);
        Check.due("a head in its own body", Texts.engine("0:;3:3;3:0;").level(3), 1);
    }

    // ---- Reasons

    private static void reasons() {
        Check.sentence("Promise 13:",
            "start with all rules; go through the rules from the highest number to the lowest");
        Check.due("of 24 equal facts the first stays", equalFacts(24).reason(7), 1);
        HornEngine last = new HornEngine();
        for (int rule = 0; rule < 23; rule++) {
            last.addRule(1, 1);
        }
        last.addRule(0, 0);
        Check.due("the highest rule alone", last.reason(0), 1 << 23);
        Check.due("the highest rule and the lowest", last.reason(1), (1 << 23) | 1);
        Check.due("sixteen rules", States.chain().reason(15), ALL);
        Check.due("the last of sixteen", States.chain().reason(0), 1 << 15);
        Check.due("the lower of two ways stays, though longer", Texts.engine("0:;1:0;2:1;2:;").reason(2), 7);
        Check.due("the lower of two ways stays, if shorter", Texts.engine("2:;0:;1:0;2:1;").reason(2), 1);
        Check.sentence("Promise 14:",
            "A rule is necessary for an atom of the model if the model of all other rules does not contain the atom");
        Check.due("of one fact", equalFacts(1).necessary(7), 1);
        Check.due("of two equal facts", equalFacts(2).necessary(7), 0);
        Check.due("the highest rule", last.necessary(1), 1 << 23);
        Check.due("sixteen rules", States.chain().necessary(15), ALL);
        Check.due("the last of sixteen", States.chain().necessary(0), 1 << 15);
        Check.due("a rule that does not fire", Texts.engine("0:1;0:;").necessary(0), 2);
    }

    private static HornEngine equalFacts(int count) {
        HornEngine x = new HornEngine();
        for (int rule = 0; rule < count; rule++) {
            x.addRule(7, 0);
        }
        return x;
    }

    // ---- Deletion

    private static void deletion() {
        Check.sentence("Promise 17:", "contains the head of r, if the body of r is a subset of M");
        Check.due("a fact", Texts.engine("5:;").overDeleted(0), 32);
        Check.due("three of four atoms", Texts.engine("0:;1:;2:;9:0,1,2,3;").overDeleted(3), 0);
        Check.due("four of four atoms", Texts.engine("0:;1:;2:;9:0,1,2,3;3:;").overDeleted(3), 512);
        Check.due("a rule that fires only from its head", Texts.engine("9:9;").overDeleted(0), 0);
        Check.sentence("Promise 17:",
            "the head of each rule other than r whose body is a subset of M and has an over-deleted atom");
        Check.due("a body outside of M", Texts.engine("0:;1:0,2;").overDeleted(0), 1);
        Check.due("a body in M", Texts.engine("0:;1:0,2;2:;").overDeleted(0), 3);
        Check.due("a body without an over-deleted atom", Texts.engine("0:;1:2;2:;").overDeleted(0), 1);
        Check.due("a fact of the same head does not help", Texts.engine("0:;1:0;0:;1:;").overDeleted(0), 3);
        Check.due("nothing depends on it", States.chain().overDeleted(0), 1 << 15);
        Check.due("all sixteen", States.chain().overDeleted(15), ALL);
        HornEngine ring = States.ring();
        ring.addRule(5, 0);
        Check.due("around the ring", ring.overDeleted(16), ALL);
        Check.due("around the ring from its end", ring.overDeleted(6), ALL);
        Check.sentence("Promise 18:", "the atoms of M that are not in the model of all rules other than r");
        Check.due("a rule that does not fire", Texts.engine("0:;1:2;").lost(1), 0);
        Check.due("a rule that fires beside another", Texts.engine("0:;1:;1:0;").lost(2), 0);
        Check.due("one atom", States.chain().lost(0), 1 << 15);
        Check.due("all sixteen", States.chain().lost(15), ALL);
        Check.due("the ring's fact", ring.lost(16), ALL);
        Check.due("the ring's end", ring.lost(5), 0);
        Check.due("the rule behind the fact's", ring.lost(4), ALL & ~32);
    }

    // ---- Insertion

    private static void insertion() {
        Check.sentence("Promise 19:",
            "the atoms that would be in the model with this rule and are not in M");
        HornEngine x = Texts.engine("0:;1:;2:;");
        Check.due("the head is in M", x.gained(0, 0), 0);
        Check.due("a body in M, the head not", x.gained(9, 7), 512);
        Check.due("three of four atoms in M", x.gained(9, 15), 0);
        x.addRule(3, 0);
        Check.due("four of four atoms in M", x.gained(9, 15), 512);
        Check.due("a head that is in the body alone", x.gained(9, 512), 0);
        HornEngine chain = States.chain();
        Check.due("all are in M", chain.gained(0, 0), 0);
        chain.removeRule(15);
        Check.due("all sixteen", chain.gained(0, 0), ALL);
        Check.due("all but the first", chain.gained(1, 0), ALL & ~1);
        Check.due("the last one", chain.gained(15, 0), 1 << 15);
        Check.due("a body that would follow from its own head", chain.gained(0, 1 << 15), 0);
        Unchanged.atAll("gained(0, 0)", States::fresh, e -> e.gained(0, 0), 1);
        Unchanged.atAll("gained(5, 1)", States::busy, e -> e.gained(5, 1), 56);
    }

    // ---- Abduction

    private static void abduction() {
        initiallyEmpty();
        fewestAtoms();
        smallestNumber();
    }

    private static void initiallyEmpty() {
        Check.sentence("Promises 1, 20, 21:", "There is a set of assumable atoms, initially empty");
        for (int atom = 0; atom < 16; atom++) {
            Check.due("explanation(" + atom + ") of a new object", new HornEngine().explanation(atom), -3);
        }
        Check.due("setAssumable of a new object", new HornEngine().setAssumable(1), 0);
        HornEngine x = new HornEngine();
        x.setAssumable(1 << 15);
        Check.due("an assumable atom", x.explanation(15), 1 << 15);
        Check.due("the one beside it", x.explanation(14), -3);
        x.setAssumable(0);
        Check.due("empty again", x.explanation(15), -3);
    }

    private static void fewestAtoms() {
        Check.sentence("Promise 21:", "The best explanation is the one with the fewest atoms");
        HornEngine x = Texts.engine("15:0,1,2,3;14:4,5,6,7;13:15,14;12:13;12:0,1,2,4;12:6,7,5;12:11,10;");
        x.setAssumable(0xFF);
        Check.due("eight atoms", x.explanation(13), 0xFF);
        Check.due("three atoms before four and eight", x.explanation(12), 0xE0);
        x.setAssumable(0x7F);
        Check.due("seven of the eight", x.explanation(13), -3);
        Check.due("four atoms, where three cannot be", x.explanation(12), 0x17);
        x.setAssumable(0xC00 | 0xE0);
        Check.due("two atoms before a smaller number of three", x.explanation(12), 0xC00);
        x.setAssumable(0x1000 | 0xC00 | 0xE0);
        Check.due("one atom before a smaller number of two", x.explanation(12), 0x1000);
        x.addRule(12, 0);
        Check.due("none before one", x.explanation(12), 0);
    }

    private static void smallestNumber() {
        Check.sentence("Promise 21:", "of several, the one whose bit set is the smallest number");
        HornEngine x = Texts.engine("9:7,0;9:6,1;9:2,5;9:3,4;8:15;8:14;");
        x.setAssumable(0xFF);
        Check.due("four pairs", x.explanation(9), 0x18);
        x.setAssumable(0xF7);
        Check.due("three pairs", x.explanation(9), 0x24);
        x.setAssumable(0xC3);
        Check.due("two pairs", x.explanation(9), 0x42);
        x.setAssumable(0x81);
        Check.due("one pair", x.explanation(9), 0x81);
        x.setAssumable(0xC000);
        Check.due("two atoms alone", x.explanation(8), 0x4000);
        x.setAssumable(0x8000);
        Check.due("the greatest one", x.explanation(8), 0x8000);
        x.setAssumable(0xC100);
        Check.due("the atom itself", x.explanation(8), 0x100);
    }

    // ---- Cycles

    private static void cycles() {
        Check.sentence("Promises 15, 16:", "An atom depends on another atom (or on itself) directly");
        Check.due("on itself: dependencies(3)", Texts.engine("3:3;").dependencies(3), 8);
        Check.due("on itself: cyclicAtoms()", Texts.engine("3:3;").cyclicAtoms(), 8);
        Check.due("on another: dependencies(3)", Texts.engine("3:2;").dependencies(3), 4);
        Check.due("on another: cyclicAtoms()", Texts.engine("3:2;").cyclicAtoms(), 0);
        Check.due("on none: dependencies(3)", Texts.engine("3:;").dependencies(3), 0);
        Check.sentence("Promises 15, 16:", "whether the rule fires or not");
        Check.due("it does not fire: dependencies(1)", Texts.engine("1:2;2:1;").dependencies(1), 6);
        Check.due("it does not fire: cyclicAtoms()", Texts.engine("1:2;2:1;").cyclicAtoms(), 6);
        Check.due("it fires: dependencies(1)", Texts.engine("1:2;2:1;1:;").dependencies(1), 6);
        Check.due("it fires: cyclicAtoms()", Texts.engine("1:2;2:1;1:;").cyclicAtoms(), 6);
        Check.due("only one fires: dependencies(1)", Texts.engine("2:;1:2;1:4;4:5;").dependencies(1), 52);
        Check.sentence("Promises 15, 16:", "if it depends on itself over one or more direct dependencies");
        HornEngine ring = States.ring();
        Check.due("over sixteen: cyclicAtoms()", ring.cyclicAtoms(), ALL);
        for (int atom = 0; atom < 16; atom++) {
            Check.due("over sixteen: dependencies(" + atom + ")", ring.dependencies(atom), ALL);
        }
        ring.removeRule(15);
        Check.due("over fifteen, no ring: cyclicAtoms()", ring.cyclicAtoms(), 0);
        Check.due("over fifteen, no ring: dependencies(0)", ring.dependencies(0), ALL & ~1);
        Check.due("over fifteen, no ring: dependencies(15)", ring.dependencies(15), 0);
        ring.addRule(15, 1 << 14);
        Check.due("over two: cyclicAtoms()", ring.cyclicAtoms(), 0xC000);
        Check.due("that a cycle is below makes no atom cyclic", ring.dependencies(0), ALL & ~1);
    }
}
