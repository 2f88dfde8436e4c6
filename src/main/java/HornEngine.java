/** An inference engine for propositional definite clauses over 16 atoms; README.md says how to use it. */
public final class HornEngine {
    public static final int OUT_OF_RANGE = -2;
    public static final int NOT_DERIVED = -3;
    public static final int FULL = -4;
    public static final int NOTHING_SAVED = -5;
    public static final int NONE = -1;

    private static final int ATOM_LIMIT = 16;
    private static final int ALL_ATOMS = 0xFFFF;
    private static final int RULE_LIMIT = 24;
    private static final int BODY_LIMIT = 4;
    private static final int ASSUMABLE_LIMIT = 8;
    private static final int SAVED_LIMIT = 4;
    private static final int TEXT_LIMIT = 120;
    private static final int GREATEST_BYTE = 127;
    private static final int SYNTAX_ERROR_BASE = -10;
    private static final int ERROR_CODES = 4;
    private static final long DIGEST_START = 2719L;

    private final Rulebook current = new Rulebook();
    private final Propagation propagation = new Propagation();
    private final History history = new History();
    private final Row text = new Row(TEXT_LIMIT);
    private final RuleReader reader = new RuleReader();
    private final int[] errorCounters = new int[ERROR_CODES];

    public HornEngine() {
    }

    // ---- rules

    public int addRule(int head, int body) {
        if (!isAtom(head) || !isAtomSet(body, BODY_LIMIT)) {
            return fail(OUT_OF_RANGE);
        }
        if (current.isFull()) {
            return fail(FULL);
        }
        history.save(current);
        current.addLast(head, body);
        return current.size() - 1;
    }

    public int removeRule(int rule) {
        if (!current.hasRule(rule)) {
            return fail(OUT_OF_RANGE);
        }
        history.save(current);
        current.removeAt(rule);
        return current.size();
    }

    public int rules() {
        return current.size();
    }

    public int head(int rule) {
        return current.hasRule(rule) ? current.headOf(rule) : fail(OUT_OF_RANGE);
    }

    public int body(int rule) {
        return current.hasRule(rule) ? current.bodyOf(rule) : fail(OUT_OF_RANGE);
    }

    // ---- model

    public int model() {
        return current.leastModel();
    }

    public int derived(int index) {
        if (index < 0) {
            return fail(OUT_OF_RANGE);
        }
        propagation.run(current);
        return propagation.atomAt(index);
    }

    public int fired(int index) {
        if (index < 0) {
            return fail(OUT_OF_RANGE);
        }
        propagation.run(current);
        return propagation.ruleAt(index);
    }

    public int level(int atom) {
        if (!isAtom(atom)) {
            return fail(OUT_OF_RANGE);
        }
        return isDerived(atom) ? current.levelOf(atom) : fail(NOT_DERIVED);
    }

    public int modelShareBits() {
        return bitsOfSixteenths(Integer.bitCount(current.leastModel()));
    }

    public int supports(int atom) {
        return isAtom(atom) ? current.supportsOf(atom) : fail(OUT_OF_RANGE);
    }

    // ---- reasons

    public int reason(int atom) {
        if (!isAtom(atom)) {
            return fail(OUT_OF_RANGE);
        }
        return isDerived(atom) ? current.reasonFor(atom) : fail(NOT_DERIVED);
    }

    public int necessary(int atom) {
        if (!isAtom(atom)) {
            return fail(OUT_OF_RANGE);
        }
        return isDerived(atom) ? current.necessaryFor(atom) : fail(NOT_DERIVED);
    }

    public int dependencies(int atom) {
        return isAtom(atom) ? current.dependenciesOf(atom) : fail(OUT_OF_RANGE);
    }

    public int cyclicAtoms() {
        return current.atomsOnCycles();
    }

    // ---- changes

    public int overDeleted(int rule) {
        return current.hasRule(rule) ? current.overDeletedBy(rule) : fail(OUT_OF_RANGE);
    }

    public int lost(int rule) {
        return current.hasRule(rule) ? current.lostWithout(rule) : fail(OUT_OF_RANGE);
    }

    public int gained(int head, int body) {
        if (!isAtom(head) || !isAtomSet(body, BODY_LIMIT)) {
            return fail(OUT_OF_RANGE);
        }
        return current.gainedWith(head, body);
    }

    // ---- abduction

    public int setAssumable(int atoms) {
        if (!isAtomSet(atoms, ASSUMABLE_LIMIT)) {
            return fail(OUT_OF_RANGE);
        }
        history.save(current);
        return current.replaceAssumable(atoms);
    }

    public int explanation(int atom) {
        if (!isAtom(atom)) {
            return fail(OUT_OF_RANGE);
        }
        int best = current.bestExplanation(atom);
        return best == NONE ? fail(NOT_DERIVED) : best;
    }

    // ---- text

    public int append(int value) {
        if (value < 0 || value > GREATEST_BYTE) {
            return fail(OUT_OF_RANGE);
        }
        if (text.isFull()) {
            return fail(FULL);
        }
        text.addLast(value);
        return text.size();
    }

    public int clearText() {
        int length = text.size();
        text.empty();
        return length;
    }

    public int parse() {
        if (!reader.readOnto(current, text)) {
            return SYNTAX_ERROR_BASE - reader.errorAt();
        }
        int before = current.size();
        history.save(current);
        reader.copyResultTo(current);
        return current.size() - before;
    }

    // ---- state

    public int undo() {
        if (history.isEmpty()) {
            return fail(NOTHING_SAVED);
        }
        history.restore(current);
        return history.size();
    }

    public int errorCount(int code) {
        return isErrorCode(code) ? errorCounters[OUT_OF_RANGE - code] : fail(OUT_OF_RANGE);
    }

    public long digest() {
        long h = DIGEST_START;
        for (int code = OUT_OF_RANGE; code >= NOTHING_SAVED; code--) {
            h = mix(h, errorCounters[OUT_OF_RANGE - code]);
        }
        h = mix(h, text.size());
        h = mix(h, current.assumableAtoms());
        h = mixRules(h);
        h = mixPropagation(h);
        h = mixAtoms(h);
        h = mix(h, current.atomsOnCycles());
        return mix(h, history.size());
    }

    private long mixRules(long start) {
        long h = mix(start, current.size());
        for (int rule = 0; rule < current.size(); rule++) {
            h = mix(h, current.headOf(rule));
            h = mix(h, current.bodyOf(rule));
            h = mix(h, current.overDeletedBy(rule));
            h = mix(h, current.lostWithout(rule));
        }
        return h;
    }

    private long mixPropagation(long start) {
        propagation.run(current);
        long h = mix(start, current.leastModel());
        for (int index = 0; index < propagation.atomCount(); index++) {
            h = mix(h, propagation.atomAt(index));
        }
        for (int index = 0; index < propagation.ruleCount(); index++) {
            h = mix(h, propagation.ruleAt(index));
        }
        return h;
    }

    private long mixAtoms(long start) {
        long h = start;
        int derivedAtoms = current.leastModel();
        for (int atom = 0; atom < ATOM_LIMIT; atom++) {
            if (contains(derivedAtoms, atom)) {
                h = mix(h, current.levelOf(atom));
                h = mix(h, current.reasonFor(atom));
                h = mix(h, current.necessaryFor(atom));
            }
        }
        return h;
    }

    private static long mix(long h, int value) {
        return 31L * h + value;
    }

    private int fail(int code) {
        if (isErrorCode(code)) {
            errorCounters[OUT_OF_RANGE - code]++;
        }
        return code;
    }

    private boolean isDerived(int atom) {
        return contains(current.leastModel(), atom);
    }

    private static boolean isErrorCode(int code) {
        return code >= NOTHING_SAVED && code <= OUT_OF_RANGE;
    }

    private static boolean isAtom(int atom) {
        return atom >= 0 && atom < ATOM_LIMIT;
    }

    private static boolean isAtomSet(int atoms, int limit) {
        return atoms >= 0 && atoms <= ALL_ATOMS && Integer.bitCount(atoms) <= limit;
    }

    private static boolean contains(int set, int element) {
        return (set & (1 << element)) != 0;
    }

    private static boolean isSubset(int part, int whole) {
        return (part & ~whole) == 0;
    }

    /**
     * The bits of the float sixteenths / 16.0f, for 0 to 16 sixteenths. They are put together by hand because
     * LANGUAGE.md leaves Float.floatToIntBits out; the quotient is exact, so nothing is rounded.
     */
    private static int bitsOfSixteenths(int sixteenths) {
        for (int power = 4; power >= 0; power--) {
            if (contains(sixteenths, power)) {
                int exponent = 127 + power - 4;
                int fraction = (sixteenths << (23 - power)) & 0x7FFFFF;
                return (exponent << 23) | fraction;
            }
        }
        return 0;
    }

    /** What undo brings back: the rules and the assumable atoms, with all that follows from them. */
    private static final class Rulebook {
        private final int[] heads = new int[RULE_LIMIT];
        private final int[] bodies = new int[RULE_LIMIT];
        private int count;
        private int assumable;

        int size() {
            return count;
        }

        boolean isFull() {
            return count >= RULE_LIMIT;
        }

        boolean hasRule(int rule) {
            return rule >= 0 && rule < count;
        }

        int headOf(int rule) {
            return hasRule(rule) ? heads[rule] : NONE;
        }

        int bodyOf(int rule) {
            return hasRule(rule) ? bodies[rule] : NONE;
        }

        int assumableAtoms() {
            return assumable;
        }

        void addLast(int ruleHead, int ruleBody) {
            if (!isFull()) {
                heads[count] = ruleHead;
                bodies[count] = ruleBody;
                count++;
            }
        }

        void removeAt(int rule) {
            if (!hasRule(rule)) {
                return;
            }
            for (int next = rule + 1; next < count; next++) {
                heads[next - 1] = heads[next];
                bodies[next - 1] = bodies[next];
            }
            count--;
        }

        int replaceAssumable(int atoms) {
            int previous = assumable;
            assumable = atoms;
            return previous;
        }

        void copyFrom(Rulebook other) {
            for (int rule = 0; rule < other.count; rule++) {
                heads[rule] = other.heads[rule];
                bodies[rule] = other.bodies[rule];
            }
            count = other.count;
            assumable = other.assumable;
        }

        int leastModel() {
            return closure(everyRule(), 0);
        }

        int levelOf(int atom) {
            int known = 0;
            for (int round = 0; round < ATOM_LIMIT; round++) {
                known = afterOneRound(everyRule(), known);
                if (contains(known, atom)) {
                    return round;
                }
            }
            return NONE;
        }

        int supportsOf(int atom) {
            int model = leastModel();
            int found = 0;
            for (int rule = 0; rule < count; rule++) {
                if (heads[rule] == atom && isSubset(bodies[rule], model)) {
                    found |= 1 << rule;
                }
            }
            return found;
        }

        int reasonFor(int atom) {
            int kept = everyRule();
            for (int rule = count - 1; rule >= 0; rule--) {
                int fewer = kept & ~(1 << rule);
                if (contains(closure(fewer, 0), atom)) {
                    kept = fewer;
                }
            }
            return kept;
        }

        int necessaryFor(int atom) {
            int found = 0;
            for (int rule = 0; rule < count; rule++) {
                if (!contains(modelWithout(rule), atom)) {
                    found |= 1 << rule;
                }
            }
            return found;
        }

        int dependenciesOf(int atom) {
            int reached = bodiesUnder(1 << atom);
            for (int round = 0; round < ATOM_LIMIT; round++) {
                reached |= bodiesUnder(reached);
            }
            return reached;
        }

        int atomsOnCycles() {
            int found = 0;
            for (int atom = 0; atom < ATOM_LIMIT; atom++) {
                found |= dependenciesOf(atom) & (1 << atom);
            }
            return found;
        }

        int overDeletedBy(int deleted) {
            int model = leastModel();
            if (!hasRule(deleted) || !isSubset(bodies[deleted], model)) {
                return 0;
            }
            int over = 1 << heads[deleted];
            for (int round = 0; round < ATOM_LIMIT; round++) {
                for (int rule = 0; rule < count; rule++) {
                    if (rule != deleted && isSubset(bodies[rule], model) && (bodies[rule] & over) != 0) {
                        over |= 1 << heads[rule];
                    }
                }
            }
            return over;
        }

        int lostWithout(int rule) {
            return leastModel() & ~modelWithout(rule);
        }

        /** A rule that cannot fire in the model gains nothing; one that can is as good as its head as a fact. */
        int gainedWith(int ruleHead, int ruleBody) {
            int model = leastModel();
            if (!isSubset(ruleBody, model)) {
                return 0;
            }
            return closure(everyRule(), 1 << ruleHead) & ~model;
        }

        /** The sets come in ascending order, so of equally small ones the first is the smallest number. */
        int bestExplanation(int atom) {
            int best = NONE;
            int bestSize = ASSUMABLE_LIMIT + 1;
            int candidate = 0;
            int candidates = 1 << Integer.bitCount(assumable);
            for (int seen = 0; seen < candidates; seen++) {
                int size = Integer.bitCount(candidate);
                if (size < bestSize && contains(closure(everyRule(), candidate), atom)) {
                    best = candidate;
                    bestSize = size;
                }
                candidate = (candidate - assumable) & assumable;
            }
            return best;
        }

        private int everyRule() {
            return (1 << count) - 1;
        }

        private int modelWithout(int rule) {
            return closure(everyRule() & ~(1 << rule), 0);
        }

        /** The least model of some of the rules and of the given atoms as facts. */
        private int closure(int ruleSet, int facts) {
            int known = facts;
            for (int round = 0; round < ATOM_LIMIT; round++) {
                int next = afterOneRound(ruleSet, known);
                if (next == known) {
                    return known;
                }
                known = next;
            }
            return known;
        }

        /** Heads of one round do not help one another, so that the rounds are those that levels count. */
        private int afterOneRound(int ruleSet, int known) {
            int next = known;
            for (int rule = 0; rule < count; rule++) {
                if (contains(ruleSet, rule) && isSubset(bodies[rule], known)) {
                    next |= 1 << heads[rule];
                }
            }
            return next;
        }

        private int bodiesUnder(int headSet) {
            int atoms = 0;
            for (int rule = 0; rule < count; rule++) {
                if (contains(headSet, heads[rule])) {
                    atoms |= bodies[rule];
                }
            }
            return atoms;
        }
    }

    /** A row of numbers whose room is made once and used again. */
    private static final class Row {
        private final int[] items;
        private int count;

        Row(int room) {
            items = new int[room < 0 ? 0 : room];
        }

        int size() {
            return count;
        }

        boolean isFull() {
            return count >= items.length;
        }

        void empty() {
            count = 0;
        }

        void addLast(int item) {
            if (!isFull()) {
                items[count] = item;
                count++;
            }
        }

        /** NONE behind the end; in a text that is no byte, so the end is refused where a byte must stand. */
        int itemAt(int index) {
            return index >= 0 && index < count ? items[index] : NONE;
        }
    }

    /** The orders in which atoms are derived and rules fire. */
    private static final class Propagation {
        private final Row queue = new Row(ATOM_LIMIT);
        private final Row firedRules = new Row(RULE_LIMIT);
        private final int[] counters = new int[RULE_LIMIT];
        private int queuedAtoms;

        int atomCount() {
            return queue.size();
        }

        int atomAt(int index) {
            return queue.itemAt(index);
        }

        int ruleCount() {
            return firedRules.size();
        }

        int ruleAt(int index) {
            return firedRules.itemAt(index);
        }

        void run(Rulebook book) {
            queue.empty();
            firedRules.empty();
            queuedAtoms = 0;
            fireFacts(book);
            for (int taken = 0; taken < ATOM_LIMIT && taken < queue.size(); taken++) {
                countDown(book, queue.itemAt(taken));
            }
        }

        private void fireFacts(Rulebook book) {
            for (int rule = 0; rule < RULE_LIMIT && rule < book.size(); rule++) {
                counters[rule] = Integer.bitCount(book.bodyOf(rule));
                if (counters[rule] == 0) {
                    fire(book, rule);
                }
            }
        }

        private void countDown(Rulebook book, int atom) {
            for (int rule = 0; rule < RULE_LIMIT && rule < book.size(); rule++) {
                if (contains(book.bodyOf(rule), atom)) {
                    counters[rule]--;
                    if (counters[rule] == 0) {
                        fire(book, rule);
                    }
                }
            }
        }

        private void fire(Rulebook book, int rule) {
            int atom = book.headOf(rule);
            firedRules.addLast(rule);
            if (!contains(queuedAtoms, atom)) {
                queuedAtoms |= 1 << atom;
                queue.addLast(atom);
            }
        }
    }

    /** The saved states, the oldest first. */
    private static final class History {
        private final Rulebook[] saved = new Rulebook[SAVED_LIMIT];
        private int count;

        History() {
            for (int slot = 0; slot < SAVED_LIMIT; slot++) {
                saved[slot] = new Rulebook();
            }
        }

        int size() {
            return count;
        }

        boolean isEmpty() {
            return count <= 0;
        }

        void save(Rulebook state) {
            if (count >= SAVED_LIMIT) {
                dropOldest();
            }
            saved[count].copyFrom(state);
            count++;
        }

        void restore(Rulebook state) {
            if (!isEmpty()) {
                count--;
                state.copyFrom(saved[count]);
            }
        }

        /** The oldest state's room goes to the end, to be written over by the next one. */
        private void dropOldest() {
            Rulebook oldest = saved[0];
            for (int slot = 1; slot < SAVED_LIMIT; slot++) {
                saved[slot - 1] = saved[slot];
            }
            saved[SAVED_LIMIT - 1] = oldest;
            count = SAVED_LIMIT - 1;
        }
    }

    /** Reads rule text behind the rules that exist, on a draft: a syntax error leaves the rules as they are. */
    private static final class RuleReader {
        private final Rulebook draft = new Rulebook();
        private int position;
        private int errorPosition;

        int errorAt() {
            return errorPosition;
        }

        void copyResultTo(Rulebook book) {
            book.copyFrom(draft);
        }

        boolean readOnto(Rulebook existing, Row source) {
            draft.copyFrom(existing);
            position = 0;
            skipSpaces(source);
            for (int read = 0; read <= RULE_LIMIT && position < source.size(); read++) {
                if (!readRule(source)) {
                    return false;
                }
                skipSpaces(source);
            }
            return true;
        }

        private boolean readRule(Row source) {
            if (draft.isFull()) {
                refuse(position);
                return false;
            }
            int ruleHead = readAtom(source);
            if (ruleHead == NONE || !take(source, ':')) {
                return false;
            }
            int ruleBody = readBody(source);
            if (ruleBody == NONE || !take(source, ';')) {
                return false;
            }
            draft.addLast(ruleHead, ruleBody);
            return true;
        }

        private int readBody(Row source) {
            int atoms = 0;
            skipSpaces(source);
            if (source.itemAt(position) == ';') {
                return atoms;
            }
            for (int read = 0; read < BODY_LIMIT; read++) {
                int start = position;
                int atom = readAtom(source);
                if (atom == NONE) {
                    return NONE;
                }
                if (contains(atoms, atom)) {
                    return refuse(start);
                }
                atoms |= 1 << atom;
                skipSpaces(source);
                if (source.itemAt(position) != ',') {
                    return atoms;
                }
                position++;
                skipSpaces(source);
            }
            return refuse(position);
        }

        private int readAtom(Row source) {
            int start = position;
            if (!isDigit(source.itemAt(start))) {
                return refuse(start);
            }
            int number = source.itemAt(start) - '0';
            position++;
            if (isDigit(source.itemAt(position))) {
                number = number * 10 + source.itemAt(position) - '0';
                position++;
            }
            if (isDigit(source.itemAt(position))) {
                return refuse(position);
            }
            return isAtom(number) ? number : refuse(start);
        }

        private boolean take(Row source, int sign) {
            skipSpaces(source);
            if (source.itemAt(position) != sign) {
                refuse(position);
                return false;
            }
            position++;
            return true;
        }

        private void skipSpaces(Row source) {
            while (position < source.size() && source.itemAt(position) == ' ') {
                position++;
            }
        }

        private static boolean isDigit(int sign) {
            return sign >= '0' && sign <= '9';
        }

        private int refuse(int place) {
            errorPosition = place;
            return NONE;
        }
    }
}
