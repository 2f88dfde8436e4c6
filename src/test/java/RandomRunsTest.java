/** Runs of up to 512 calls whose every answer is compared with Reference's; the calls are the same each time. */
final class RandomRunsTest {
    private static final int RUNS = 500;
    private static final int CALLS = 512;
    /** The most calls that one step makes: a text of some 120 bytes is emptied, written and read. */
    private static final int STEP = 150;
    private static final int METHODS = 26;

    private final HornEngine engine = new HornEngine();
    private final Reference reference = new Reference();
    private final int run;
    private long seed;
    private int calls;

    private RandomRunsTest(int run) {
        this.run = run;
        this.seed = 88172645463325252L + 7919L * run;
    }

    public static void main(String[] args) {
        for (int run = 0; run < RUNS && Check.wrongAnswers() == 0; run++) {
            new RandomRunsTest(run).go();
        }
        Check.end();
    }

    private int below(int bound) {
        seed = seed * 6364136223846793005L + 1442695040888963407L;
        return (int) Math.floorMod(seed >>> 33, (long) bound);
    }

    private void due(String call, long got, long want) {
        Check.due("run " + run + ", call " + calls + ": " + call, got, want);
        calls++;
    }

    /** Most runs grow their rules; some stay with few atoms, so that the models are rich. */
    private void go() {
        while (calls < CALLS - STEP) {
            int choice = below(100);
            if (choice < 25) {
                addRule();
            } else if (choice < 33) {
                writeAndParse();
            } else {
                call(below(METHODS));
            }
        }
    }

    private int atom() {
        int choice = below(30);
        if (choice == 0) {
            return new int[] {-1, 16, 31, 32, Integer.MIN_VALUE, Integer.MAX_VALUE}[below(6)];
        }
        return run % 3 == 0 ? below(16) : below(6 + run % 5);
    }

    private int body(int most) {
        if (below(30) == 0) {
            return new int[] {-1, 65535, 65536, 31, 0x1FF, Integer.MIN_VALUE, Integer.MAX_VALUE}[below(7)];
        }
        int body = 0;
        for (int i = below(most + 1); i > 0; i--) {
            body |= 1 << Math.floorMod(atom(), 16);
        }
        return body;
    }

    private int rule() {
        return below(20) == 0
            ? new int[] {-1, 24, 32, Integer.MIN_VALUE, Integer.MAX_VALUE}[below(5)]
            : below(reference.rules() + 2);
    }

    private void addRule() {
        int head = atom();
        int body = below(4) == 0 ? 0 : body(run % 2 == 0 ? 2 : 4);
        due("addRule(" + head + ", " + body + ")", engine.addRule(head, body), reference.addRule(head, body));
    }

    private void writeAndParse() {
        due("clearText()", engine.clearText(), reference.clearText());
        StringBuilder written = new StringBuilder();
        for (int rules = below(4); rules > 0; rules--) {
            writeRule(written);
        }
        for (int spoiled = below(3); spoiled > 1; spoiled--) {
            spoil(written);
        }
        for (int i = 0; i < written.length(); i++) {
            append(written.charAt(i));
        }
        due("parse() of \"" + written + "\"", engine.parse(), reference.parse());
    }

    private void writeRule(StringBuilder written) {
        written.append(space()).append(number()).append(space()).append(':').append(space());
        int atoms = below(4) == 0 ? below(7) : below(3);
        for (int i = 0; i < atoms; i++) {
            written.append(i == 0 ? "" : ",").append(space()).append(number()).append(space());
        }
        written.append(';').append(space());
    }

    private String space() {
        return " ".repeat(below(6) / 5);
    }

    private String number() {
        int choice = below(60);
        return choice == 0 ? "0" + below(200) : choice == 1 ? "" + below(200) : choice < 8 ? "0" + below(10) : "" + below(16);
    }

    private void spoil(StringBuilder written) {
        if (written.length() > 0) {
            int place = below(written.length());
            switch (below(3)) {
                case 0 -> written.deleteCharAt(place);
                case 1 -> written.setLength(place);
                default -> written.insert(place, "0123456789:;,  x".charAt(below(16)));
            }
        }
    }

    private void append(int value) {
        due("append(" + value + ")", engine.append(value), reference.append(value));
    }

    private void call(int method) {
        HornEngine x = engine;
        Reference y = reference;
        int atom = atom();
        int rule = rule();
        int index = below(28) - 1;
        int code = -7 + below(8);
        switch (method) {
            case 0 -> due("removeRule(" + rule + ")", x.removeRule(rule), y.removeRule(rule));
            case 1 -> due("rules()", x.rules(), y.rules());
            case 2 -> due("head(" + rule + ")", x.head(rule), y.head(rule));
            case 3 -> due("body(" + rule + ")", x.body(rule), y.body(rule));
            case 4 -> due("model()", x.model(), y.model());
            case 5 -> due("derived(" + index + ")", x.derived(index), y.derived(index));
            case 6 -> due("fired(" + index + ")", x.fired(index), y.fired(index));
            case 7 -> due("level(" + atom + ")", x.level(atom), y.level(atom));
            case 8 -> due("modelShareBits()", x.modelShareBits(), y.modelShareBits());
            case 9 -> due("supports(" + atom + ")", x.supports(atom), y.supports(atom));
            case 10 -> due("reason(" + atom + ")", x.reason(atom), y.reason(atom));
            case 11 -> due("necessary(" + atom + ")", x.necessary(atom), y.necessary(atom));
            case 12 -> due("dependencies(" + atom + ")", x.dependencies(atom), y.dependencies(atom));
            case 13 -> due("cyclicAtoms()", x.cyclicAtoms(), y.cyclicAtoms());
            case 14 -> due("overDeleted(" + rule + ")", x.overDeleted(rule), y.overDeleted(rule));
            case 15 -> due("lost(" + rule + ")", x.lost(rule), y.lost(rule));
            case 16 -> gained();
            case 17 -> setAssumable();
            case 18, 19 -> due("explanation(" + atom + ")", x.explanation(atom), y.explanation(atom));
            case 20 -> append(below(150) - 10);
            case 21 -> due("parse()", x.parse(), y.parse());
            case 22 -> due("undo()", x.undo(), y.undo());
            case 23 -> due("errorCount(" + code + ")", x.errorCount(code), y.errorCount(code));
            default -> due("digest()", x.digest(), y.digest());
        }
    }

    private void gained() {
        int head = atom();
        int body = body(3);
        due("gained(" + head + ", " + body + ")", engine.gained(head, body), reference.gained(head, body));
    }

    private void setAssumable() {
        int atoms = body(9);
        due("setAssumable(" + atoms + ")", engine.setAssumable(atoms), reference.setAssumable(atoms));
    }
}
