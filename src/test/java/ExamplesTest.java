/** The five examples of the document, and its constants. */
final class ExamplesTest {
    public static void main(String[] args) {
        chain();
        deletion();
        cycleAndAbduction();
        syntaxError();
        errors();
        constants();
        Check.end();
    }

    private static void chain() {
        HornEngine x = new HornEngine();
        Check.due("1: addRule(0, 0)", x.addRule(0, 0), 0);
        Check.due("1: addRule(1, 1)", x.addRule(1, 1), 1);
        Check.due("1: addRule(2, 3)", x.addRule(2, 3), 2);
        Check.due("1: model()", x.model(), 7);
        Check.due("1: derived(2)", x.derived(2), 2);
        Check.due("1: level(2)", x.level(2), 2);
        Check.due("1: reason(2)", x.reason(2), 7);
    }

    private static void deletion() {
        HornEngine x = new HornEngine();
        Check.due("2: addRule(0, 0)", x.addRule(0, 0), 0);
        Check.due("2: addRule(1, 1)", x.addRule(1, 1), 1);
        Check.due("2: addRule(1, 0)", x.addRule(1, 0), 2);
        Check.due("2: overDeleted(1)", x.overDeleted(1), 2);
        Check.due("2: lost(1)", x.lost(1), 0);
        Check.due("2: overDeleted(0)", x.overDeleted(0), 3);
        Check.due("2: lost(0)", x.lost(0), 1);
        Check.due("2: necessary(1)", x.necessary(1), 0);
    }

    private static void cycleAndAbduction() {
        HornEngine x = new HornEngine();
        Check.due("3: addRule(4, 32)", x.addRule(4, 32), 0);
        Check.due("3: addRule(5, 16)", x.addRule(5, 16), 1);
        Check.due("3: model()", x.model(), 0);
        Check.due("3: cyclicAtoms()", x.cyclicAtoms(), 48);
        Check.due("3: setAssumable(48)", x.setAssumable(48), 0);
        Check.due("3: explanation(4)", x.explanation(4), 16);
        Check.due("3: explanation(6)", x.explanation(6), -3);
    }

    private static void syntaxError() {
        HornEngine x = new HornEngine();
        Check.due("4: clearText()", x.clearText(), 0);
        int[] bytes = {48, 58, 59, 49, 58, 48, 59, 50, 58, 49, 44, 49, 59};
        for (int i = 0; i < bytes.length; i++) {
            Check.due("4: append(" + bytes[i] + ")", x.append(bytes[i]), i + 1);
        }
        Check.due("4: parse()", x.parse(), -21);
        Check.due("4: rules()", x.rules(), 0);
    }

    private static void errors() {
        HornEngine x = new HornEngine();
        Check.due("5: addRule(16, 0)", x.addRule(16, 0), -2);
        Check.due("5: level(0)", x.level(0), -3);
        Check.due("5: undo()", x.undo(), -5);
    }

    private static void constants() {
        Check.due("OUT_OF_RANGE", HornEngine.OUT_OF_RANGE, -2);
        Check.due("NOT_DERIVED", HornEngine.NOT_DERIVED, -3);
        Check.due("FULL", HornEngine.FULL, -4);
        Check.due("NOTHING_SAVED", HornEngine.NOTHING_SAVED, -5);
        Check.due("NONE", HornEngine.NONE, -1);
    }
}
