/** Helpers that put a written text into an engine. */
final class Texts {
    private Texts() {
    }

    static void put(HornEngine engine, String written) {
        engine.clearText();
        for (int i = 0; i < written.length(); i++) {
            engine.append(written.charAt(i));
        }
    }

    static int parse(HornEngine engine, String written) {
        put(engine, written);
        return engine.parse();
    }

    /** An engine with the rules of the text, which must be free of errors. */
    static HornEngine engine(String written) {
        HornEngine engine = new HornEngine();
        int rules = parse(engine, written);
        Check.holds("the text \"" + written + "\" is read", rules >= 0);
        return engine;
    }
}
