/** Engines in the states in which calls at a boundary are tried; each call makes a new object. */
final class States {
    private States() {
    }

    static HornEngine fresh() {
        return new HornEngine();
    }

    /** Four rules, three assumable atoms, a text of one rule, four saved states that differ; no error yet. */
    static HornEngine busy() {
        HornEngine x = new HornEngine();
        x.setAssumable(0x30);
        x.addRule(0, 0);
        x.addRule(1, 1);
        x.addRule(2, 3);
        x.addRule(3, 0x10);
        x.setAssumable(0x70);
        x.addRule(4, 0x20);
        x.removeRule(1);
        Texts.put(x, "9:8;");
        return x;
    }

    /** As busy, but with no saved state left and with a text that cannot be read. */
    static HornEngine worn() {
        HornEngine x = busy();
        for (int i = 0; i < 4; i++) {
            x.undo();
        }
        x.undo();
        x.head(-1);
        x.level(15);
        Texts.put(x, "9:8,");
        return x;
    }

    /** 24 rules, eight assumable atoms, a text of 120 bytes, four saved states, each error counted once. */
    static HornEngine full() {
        HornEngine x = new HornEngine();
        x.undo();
        x.setAssumable(0xFF);
        for (int rule = 0; rule < 24; rule++) {
            x.addRule(rule % 14, rule < 14 ? 0 : 1 << (rule - 14));
        }
        x.addRule(0, 0);
        x.head(24);
        x.level(15);
        Texts.put(x, "9:8;" + " ".repeat(116));
        return x;
    }

    /** The rules 0 to count - 1 are the facts 0 to 15, and from rule 16 on the facts 0 to 7 again. */
    static HornEngine facts(int count) {
        HornEngine x = new HornEngine();
        for (int rule = 0; rule < count; rule++) {
            Check.due("addRule number " + rule, x.addRule(rule % 16, 0), rule);
        }
        return x;
    }

    /** The fact 0 is the last rule, and each atom above it follows from the one below: against the rules' order. */
    static HornEngine chain() {
        HornEngine x = new HornEngine();
        for (int atom = 15; atom > 0; atom--) {
            x.addRule(atom, 1 << (atom - 1));
        }
        x.addRule(0, 0);
        return x;
    }

    /** Each atom follows from the next one, and 15 from 0. */
    static HornEngine ring() {
        HornEngine x = new HornEngine();
        for (int atom = 0; atom < 16; atom++) {
            x.addRule(atom, 1 << ((atom + 1) % 16));
        }
        return x;
    }
}
