import java.util.ArrayDeque;
import java.util.ArrayList;
import java.util.Arrays;
import java.util.Deque;
import java.util.HashMap;
import java.util.HashSet;
import java.util.LinkedHashSet;
import java.util.List;
import java.util.Map;
import java.util.Set;
import java.util.TreeSet;

/**
 * The document told again, with sets and lists and by other ways than HornEngine's, wherever there are two:
 * the model by propagation, levels by relaxation, dependencies by a walk, the syntax by states and kinds of bytes.
 */
final class Reference {
    private record Rule(int head, Set<Integer> body) {
    }

    private record State(List<Rule> rules, Set<Integer> assumable) {
    }

    private List<Rule> rules = new ArrayList<>();
    private Set<Integer> assumable = new TreeSet<>();
    private final Deque<State> saved = new ArrayDeque<>();
    private final Map<Integer, Integer> errors = new HashMap<>();
    private final StringBuilder text = new StringBuilder();

    private int error(int code) {
        errors.merge(code, 1, Integer::sum);
        return code;
    }

    private void save() {
        saved.addLast(new State(new ArrayList<>(rules), new TreeSet<>(assumable)));
        if (saved.size() > 4) {
            saved.removeFirst();
        }
    }

    private static Set<Integer> set(int bits) {
        Set<Integer> elements = new TreeSet<>();
        for (int k = 0; k < 32; k++) {
            if ((bits >>> k) % 2 == 1) {
                elements.add(k);
            }
        }
        return elements;
    }

    private static int bits(Iterable<Integer> elements) {
        int sum = 0;
        for (int element : elements) {
            sum |= 1 << element;
        }
        return sum;
    }

    private static boolean badSet(int bits, int most) {
        return bits < 0 || bits > 65535 || set(bits).size() > most;
    }

    private static boolean badAtom(int atom) {
        return atom < 0 || atom > 15;
    }

    private boolean badRule(int rule) {
        return rule < 0 || rule >= rules.size();
    }

    private static void propagate(List<Rule> rules, List<Integer> derived, List<Integer> fired) {
        int[] counters = new int[rules.size()];
        Set<Integer> queued = new LinkedHashSet<>();
        for (int r = 0; r < rules.size(); r++) {
            counters[r] = rules.get(r).body().size();
            if (counters[r] == 0) {
                fired.add(r);
                if (queued.add(rules.get(r).head())) {
                    derived.add(rules.get(r).head());
                }
            }
        }
        for (int next = 0; next < derived.size(); next++) {
            for (int r = 0; r < rules.size(); r++) {
                if (rules.get(r).body().contains(derived.get(next)) && --counters[r] == 0) {
                    fired.add(r);
                    if (queued.add(rules.get(r).head())) {
                        derived.add(rules.get(r).head());
                    }
                }
            }
        }
    }

    private static Set<Integer> modelOf(List<Rule> rules) {
        List<Integer> derived = new ArrayList<>();
        propagate(rules, derived, new ArrayList<>());
        return new TreeSet<>(derived);
    }

    private List<Rule> without(int rule) {
        List<Rule> others = new ArrayList<>(rules);
        others.remove(rule);
        return others;
    }

    int addRule(int head, int body) {
        if (badAtom(head) || badSet(body, 4)) {
            return error(-2);
        }
        if (rules.size() == 24) {
            return error(-4);
        }
        save();
        rules.add(new Rule(head, set(body)));
        return rules.size() - 1;
    }

    int removeRule(int rule) {
        if (badRule(rule)) {
            return error(-2);
        }
        save();
        rules.remove(rule);
        return rules.size();
    }

    int rules() {
        return rules.size();
    }

    int head(int rule) {
        return badRule(rule) ? error(-2) : rules.get(rule).head();
    }

    int body(int rule) {
        return badRule(rule) ? error(-2) : bits(rules.get(rule).body());
    }

    int model() {
        return bits(modelOf(rules));
    }

    int derived(int index) {
        if (index < 0) {
            return error(-2);
        }
        List<Integer> derived = new ArrayList<>();
        propagate(rules, derived, new ArrayList<>());
        return index < derived.size() ? derived.get(index) : -1;
    }

    int fired(int index) {
        if (index < 0) {
            return error(-2);
        }
        List<Integer> fired = new ArrayList<>();
        propagate(rules, new ArrayList<>(), fired);
        return index < fired.size() ? fired.get(index) : -1;
    }

    /** Relaxation from above: every level starts too high and sinks until no rule lowers one. */
    private int[] levels() {
        int high = 1000;
        int[] levels = new int[16];
        Arrays.fill(levels, high);
        for (boolean sinking = true; sinking;) {
            sinking = false;
            for (Rule rule : rules) {
                int level = 0;
                for (int atom : rule.body()) {
                    level = Math.max(level, levels[atom] + 1);
                }
                if (level < high && level < levels[rule.head()]) {
                    levels[rule.head()] = level;
                    sinking = true;
                }
            }
        }
        return levels;
    }

    int level(int atom) {
        if (badAtom(atom)) {
            return error(-2);
        }
        return modelOf(rules).contains(atom) ? levels()[atom] : error(-3);
    }

    int modelShareBits() {
        return Float.floatToIntBits((float) modelOf(rules).size() / 16.0f);
    }

    int supports(int atom) {
        if (badAtom(atom)) {
            return error(-2);
        }
        Set<Integer> found = new TreeSet<>();
        for (int r = 0; r < rules.size(); r++) {
            if (rules.get(r).head() == atom && modelOf(rules).containsAll(rules.get(r).body())) {
                found.add(r);
            }
        }
        return bits(found);
    }

    int reason(int atom) {
        if (badAtom(atom)) {
            return error(-2);
        }
        if (!modelOf(rules).contains(atom)) {
            return error(-3);
        }
        List<Rule> left = new ArrayList<>(rules);
        List<Integer> numbers = new ArrayList<>();
        for (int r = 0; r < rules.size(); r++) {
            numbers.add(r);
        }
        for (int r = rules.size() - 1; r >= 0; r--) {
            List<Rule> fewer = new ArrayList<>(left);
            fewer.remove(r);
            if (modelOf(fewer).contains(atom)) {
                left = fewer;
                numbers.remove(r);
            }
        }
        return bits(numbers);
    }

    int necessary(int atom) {
        if (badAtom(atom)) {
            return error(-2);
        }
        if (!modelOf(rules).contains(atom)) {
            return error(-3);
        }
        Set<Integer> found = new TreeSet<>();
        for (int r = 0; r < rules.size(); r++) {
            if (!modelOf(without(r)).contains(atom)) {
                found.add(r);
            }
        }
        return bits(found);
    }

    private void walk(int atom, Set<Integer> seen) {
        for (Rule rule : rules) {
            if (rule.head() == atom) {
                for (int below : rule.body()) {
                    if (seen.add(below)) {
                        walk(below, seen);
                    }
                }
            }
        }
    }

    int dependencies(int atom) {
        if (badAtom(atom)) {
            return error(-2);
        }
        Set<Integer> seen = new HashSet<>();
        walk(atom, seen);
        return bits(seen);
    }

    int cyclicAtoms() {
        Set<Integer> found = new TreeSet<>();
        for (int atom = 0; atom < 16; atom++) {
            Set<Integer> seen = new HashSet<>();
            walk(atom, seen);
            if (seen.contains(atom)) {
                found.add(atom);
            }
        }
        return bits(found);
    }

    int overDeleted(int rule) {
        if (badRule(rule)) {
            return error(-2);
        }
        Set<Integer> model = modelOf(rules);
        List<Integer> over = new ArrayList<>();
        if (model.containsAll(rules.get(rule).body())) {
            over.add(rules.get(rule).head());
        }
        for (int next = 0; next < over.size(); next++) {
            for (int r = 0; r < rules.size(); r++) {
                Rule other = rules.get(r);
                if (r != rule && model.containsAll(other.body()) && other.body().contains(over.get(next))
                    && !over.contains(other.head())) {
                    over.add(other.head());
                }
            }
        }
        return bits(over);
    }

    int lost(int rule) {
        if (badRule(rule)) {
            return error(-2);
        }
        Set<Integer> lost = modelOf(rules);
        lost.removeAll(modelOf(without(rule)));
        return bits(lost);
    }

    int gained(int head, int body) {
        if (badAtom(head) || badSet(body, 4)) {
            return error(-2);
        }
        List<Rule> more = new ArrayList<>(rules);
        more.add(new Rule(head, set(body)));
        Set<Integer> gained = modelOf(more);
        gained.removeAll(modelOf(rules));
        return bits(gained);
    }

    int setAssumable(int atoms) {
        if (badSet(atoms, 8)) {
            return error(-2);
        }
        save();
        int previous = bits(assumable);
        assumable = set(atoms);
        return previous;
    }

    int explanation(int atom) {
        if (badAtom(atom)) {
            return error(-2);
        }
        for (int size = 0; size <= assumable.size(); size++) {
            for (int bits = 0; bits <= bits(assumable); bits++) {
                if ((bits & ~bits(assumable)) == 0 && Integer.bitCount(bits) == size) {
                    List<Rule> more = new ArrayList<>(rules);
                    for (int fact : set(bits)) {
                        more.add(new Rule(fact, Set.of()));
                    }
                    if (modelOf(more).contains(atom)) {
                        return bits;
                    }
                }
            }
        }
        return error(-3);
    }

    int append(int value) {
        if (value < 0 || value > 127) {
            return error(-2);
        }
        if (text.length() == 120) {
            return error(-4);
        }
        text.append((char) value);
        return text.length();
    }

    int clearText() {
        int length = text.length();
        text.setLength(0);
        return length;
    }

    /** What the byte before has left: a rule may begin, a colon is due, a body may begin, an atom is due, or a sign. */
    private enum Due { HEAD, COLON, BODY, ATOM, SIGN }

    int parse() {
        List<Rule> read = new ArrayList<>();
        Due due = Due.HEAD;
        int head = 0;
        Set<Integer> body = new TreeSet<>();
        int at = 0;
        while (at < text.length()) {
            char sign = text.charAt(at);
            boolean digit = sign >= '0' && sign <= '9';
            if (sign == ' ') {
                at++;
            } else if (digit && (due == Due.HEAD || due == Due.BODY || due == Due.ATOM)) {
                if (due == Due.HEAD ? rules.size() + read.size() == 24 : body.size() == 4) {
                    return -10 - at;
                }
                int end = at;
                while (end < text.length() && text.charAt(end) >= '0' && text.charAt(end) <= '9') {
                    end++;
                }
                if (end - at > 2) {
                    return -10 - (at + 2);
                }
                int number = Integer.parseInt(text.substring(at, end));
                if (number > 15 || due != Due.HEAD && body.contains(number)) {
                    return -10 - at;
                }
                if (due == Due.HEAD) {
                    head = number;
                    body = new TreeSet<>();
                    due = Due.COLON;
                } else {
                    body.add(number);
                    due = Due.SIGN;
                }
                at = end;
            } else if (sign == ':' && due == Due.COLON) {
                due = Due.BODY;
                at++;
            } else if (sign == ',' && due == Due.SIGN) {
                due = Due.ATOM;
                at++;
            } else if (sign == ';' && (due == Due.BODY || due == Due.SIGN)) {
                read.add(new Rule(head, body));
                due = Due.HEAD;
                at++;
            } else {
                return -10 - at;
            }
        }
        if (due != Due.HEAD) {
            return -10 - text.length();
        }
        save();
        rules.addAll(read);
        return read.size();
    }

    int undo() {
        if (saved.isEmpty()) {
            return error(-5);
        }
        State state = saved.removeLast();
        rules = state.rules();
        assumable = state.assumable();
        return saved.size();
    }

    int errorCount(int code) {
        return code < -5 || code > -2 ? error(-2) : errors.getOrDefault(code, 0);
    }

    long digest() {
        List<Integer> values = new ArrayList<>();
        for (int code = -2; code >= -5; code--) {
            values.add(errors.getOrDefault(code, 0));
        }
        values.add(text.length());
        values.add(bits(assumable));
        values.add(rules.size());
        for (int r = 0; r < rules.size(); r++) {
            values.addAll(List.of(head(r), body(r), overDeleted(r), lost(r)));
        }
        values.add(model());
        List<Integer> derived = new ArrayList<>();
        List<Integer> fired = new ArrayList<>();
        propagate(rules, derived, fired);
        values.addAll(derived);
        values.addAll(fired);
        for (int atom : modelOf(rules)) {
            values.addAll(List.of(level(atom), reason(atom), necessary(atom)));
        }
        values.add(cyclicAtoms());
        values.add(saved.size());
        long h = 2719;
        for (int value : values) {
            h = 31 * h + value;
        }
        return h;
    }
}
