import java.util.ArrayDeque;
import java.util.ArrayList;
import java.util.Deque;
import java.util.HashMap;
import java.util.List;
import java.util.Map;
import java.util.TreeMap;
import java.util.TreeSet;
import java.util.regex.Pattern;

/**
 * The document once more, slowly and in other terms: facts and rules are texts ("a0x"), terms are
 * made alike by a map, stronger facts are told by instances over ten constants, and errors of texts
 * by trying what could come behind. RandomTests compares it with FollowedLaws.
 */
final class Model {
    private static final String TERMS = "0123xyzw";
    private static final Pattern FACT = Pattern.compile("[a-d]([0-3][0-3x]|x[0-3xy])");
    private static final Pattern LAWS;
    private static final String[] ENDINGS = {"", "0", "00", "a00", "<a00", "0<a00"};

    static {
        String atom = "[a-d][0-3xyzw]{2}";
        String law = "(" + FACT.pattern() + "|" + atom + "<" + atom + "(&" + atom + ")?)";
        LAWS = Pattern.compile(law + "(;" + law + ")*");
    }

    private TreeSet<String> told = new TreeSet<>();
    private List<String[]> rules = new ArrayList<>();
    private final StringBuilder buffer = new StringBuilder();
    private final Deque<Object[]> saved = new ArrayDeque<>();

    /** What the rounds over some laws bring. */
    private static final class Outcome {
        final TreeMap<String, int[]> found = new TreeMap<>();
        final List<Integer> sizes = new ArrayList<>();
        int rounds;
        int matches;
        int dropped;
    }

    private final Map<String, Outcome> outcomes = new HashMap<>();

    // ---- facts

    static boolean isFact(int predicate, int first, int second) {
        return predicate >= 0 && predicate < 4 && first >= 0 && first < 8 && second >= 0 && second < 8
                && FACT.matcher(text(64 * predicate + 8 * first + second)).matches();
    }

    static String text(int atom) {
        return "" + (char) ('a' + atom / 64) + TERMS.charAt(atom / 8 % 8) + TERMS.charAt(atom % 8);
    }

    static int number(String atom) {
        return 64 * (atom.charAt(0) - 'a') + 8 * TERMS.indexOf(atom.charAt(1)) + TERMS.indexOf(atom.charAt(2));
    }

    private static boolean isInstance(String fact, int f, int s) {
        Map<Character, Integer> places = new HashMap<>();
        int[] values = {f, s};
        for (int k = 0; k < 2; k++) {
            char term = fact.charAt(k + 1);
            int value = term < 'a' ? term - '0' : places.computeIfAbsent(term, t -> -1);
            if (value == -1) {
                places.put(term, values[k]);
            } else if (value != values[k]) {
                return false;
            }
        }
        return true;
    }

    private static final Map<String, Boolean> STRONGER = new HashMap<>();

    static boolean stronger(String one, String other) {
        return STRONGER.computeIfAbsent(one + other, k -> slowlyStronger(one, other));
    }

    private static boolean slowlyStronger(String one, String other) {
        if (one.equals(other) || one.charAt(0) != other.charAt(0)) {
            return false;
        }
        for (int f = 0; f < 10; f++) {
            for (int s = 0; s < 10; s++) {
                if (isInstance(other, f, s) && !isInstance(one, f, s)) {
                    return false;
                }
            }
        }
        return true;
    }

    private static boolean anyStronger(Iterable<String> facts, String than) {
        for (String fact : facts) {
            if (stronger(fact, than)) {
                return true;
            }
        }
        return false;
    }

    // ---- rounds

    private static String become(Map<String, String> same, String term) {
        String now = term;
        while (same.containsKey(now)) {
            now = same.get(now);
        }
        return now;
    }

    /** A constant is itself; a place is told apart by whose it is. */
    private static String own(String whose, char term) {
        return term < 'a' ? "" + term : whose + term;
    }

    private static boolean isPlace(String term) {
        return term.length() > 1;
    }

    private static Map<String, String> alike(Map<String, String> ahead, String part, String fact, String whose) {
        if (part.charAt(0) != fact.charAt(0)) {
            return null;
        }
        Map<String, String> same = new HashMap<>(ahead);
        for (int k = 1; k <= 2; k++) {
            String one = become(same, own("rule ", part.charAt(k)));
            String other = become(same, own(whose, fact.charAt(k)));
            if (one.equals(other)) {
                continue;
            }
            if (isPlace(one)) {
                same.put(one, other);
            } else if (isPlace(other)) {
                same.put(other, one);
            } else {
                return null;
            }
        }
        return same;
    }

    private static String result(Map<String, String> same, String head) {
        StringBuilder fact = new StringBuilder();
        fact.append(head.charAt(0));
        Map<String, String> names = new HashMap<>();
        for (int k = 1; k <= 2; k++) {
            String term = become(same, own("rule ", head.charAt(k)));
            if (!isPlace(term)) {
                fact.append(term);
                continue;
            }
            if (!names.containsKey(term)) {
                names.put(term, names.isEmpty() ? "x" : "y");
            }
            fact.append(names.get(term));
        }
        return fact.toString();
    }

    private static List<String> results(String[] rule, Iterable<String> ahead) {
        List<String> results = new ArrayList<>();
        for (String one : ahead) {
            Map<String, String> half = alike(new HashMap<>(), rule[1], one, "one ");
            if (half == null) {
                continue;
            }
            if (rule.length == 2) {
                results.add(result(half, rule[0]));
                continue;
            }
            for (String other : ahead) {
                Map<String, String> whole = alike(half, rule[2], other, "other ");
                if (whole != null) {
                    results.add(result(whole, rule[0]));
                }
            }
        }
        return results;
    }

    private static void drop(Outcome outcome) {
        List<String> all = new ArrayList<>(outcome.found.keySet());
        for (String fact : all) {
            if (anyStronger(all, fact)) {
                outcome.found.remove(fact);
                outcome.dropped++;
            }
        }
        outcome.sizes.add(outcome.found.size());
    }

    private Outcome outcome(TreeSet<String> facts, List<String[]> by) {
        StringBuilder key = new StringBuilder(facts.toString());
        for (String[] rule : by) {
            key.append(String.join(",", rule)).append(';');
        }
        return outcomes.computeIfAbsent(key.toString(), k -> run(facts, by));
    }

    private static Outcome run(TreeSet<String> facts, List<String[]> by) {
        Outcome outcome = new Outcome();
        for (String fact : facts) {
            outcome.found.put(fact, new int[] {0, -1});
        }
        drop(outcome);
        while (true) {
            TreeMap<String, int[]> fresh = new TreeMap<>();
            for (int number = 0; number < by.size(); number++) {
                for (String result : results(by.get(number), outcome.found.keySet())) {
                    outcome.matches++;
                    if (!outcome.found.containsKey(result) && !anyStronger(outcome.found.keySet(), result)) {
                        fresh.putIfAbsent(result, new int[] {outcome.rounds + 1, number});
                    }
                }
            }
            if (fresh.isEmpty()) {
                return outcome;
            }
            outcome.rounds++;
            outcome.found.putAll(fresh);
            drop(outcome);
        }
    }

    private static TreeSet<String> instancesOf(Iterable<String> facts) {
        TreeSet<String> all = new TreeSet<>();
        for (String fact : facts) {
            for (int f = 0; f < 4; f++) {
                for (int s = 0; s < 4; s++) {
                    if (isInstance(fact, f, s)) {
                        all.add("" + fact.charAt(0) + f + s);
                    }
                }
            }
        }
        return all;
    }

    private static int instanceCount(Outcome outcome) {
        return instancesOf(outcome.found.keySet()).size();
    }

    private Outcome now() {
        return outcome(told, rules);
    }

    // ---- the face

    private void save() {
        saved.addLast(new Object[] {new TreeSet<>(told), new ArrayList<>(rules)});
        if (saved.size() > 6) {
            saved.removeFirst();
        }
    }

    private static String fact(int predicate, int first, int second) {
        if (!isFact(predicate, first, second)) {
            throw new IllegalArgumentException();
        }
        return text(64 * predicate + 8 * first + second);
    }

    int tell(int predicate, int first, int second) {
        String fact = fact(predicate, first, second);
        if (!told.contains(fact) && told.size() == 12) {
            throw new IllegalStateException();
        }
        save();
        told.add(fact);
        return told.size();
    }

    int untell(int predicate, int first, int second) {
        String fact = fact(predicate, first, second);
        save();
        return told.remove(fact) ? 1 : 0;
    }

    int addRule(int... atoms) {
        String[] rule = new String[atoms.length];
        for (int k = 0; k < atoms.length; k++) {
            if (atoms[k] < 0 || atoms[k] > 255) {
                throw new IllegalArgumentException();
            }
            rule[k] = text(atoms[k]);
        }
        if (rules.size() == 6) {
            throw new IllegalStateException();
        }
        save();
        rules.add(rule);
        return rules.size() - 1;
    }

    private void needRule(int rule) {
        if (rule < 0 || rule >= rules.size()) {
            throw new IndexOutOfBoundsException();
        }
    }

    private static void need(boolean fits) {
        if (!fits) {
            throw new IllegalArgumentException();
        }
    }

    int remove(int rule) {
        needRule(rule);
        save();
        rules.remove(rule);
        return rules.size();
    }

    int settle() {
        if (now().found.size() > 12) {
            throw new IllegalStateException();
        }
        save();
        told = new TreeSet<>(now().found.keySet());
        return told.size();
    }

    int append(int code) {
        need(code >= 33 && code <= 126);
        if (buffer.length() == 60) {
            throw new IllegalStateException();
        }
        return buffer.append((char) code).length();
    }

    int clearBuffer() {
        int length = buffer.length();
        buffer.setLength(0);
        return length;
    }

    int firstError() {
        for (int length = 1; length <= buffer.length(); length++) {
            boolean begins = false;
            for (String ending : ENDINGS) {
                begins |= LAWS.matcher(buffer.substring(0, length) + ending).matches();
            }
            if (!begins) {
                return length - 1;
            }
        }
        return buffer.length();
    }

    int read() {
        need(LAWS.matcher(buffer).matches());
        TreeSet<String> facts = new TreeSet<>(told);
        List<String[]> all = new ArrayList<>(rules);
        String[] texts = buffer.toString().split(";");
        for (String text : texts) {
            if (text.contains("<")) {
                all.add(text.split("[<&]"));
            } else {
                facts.add(text);
            }
        }
        if (facts.size() > 12 || all.size() > 6) {
            throw new IllegalStateException();
        }
        save();
        told = facts;
        rules = all;
        buffer.setLength(0);
        return texts.length;
    }

    @SuppressWarnings("unchecked")
    int undo() {
        if (saved.isEmpty()) {
            throw new IllegalStateException();
        }
        Object[] state = saved.removeLast();
        told = (TreeSet<String>) state[0];
        rules = (List<String[]>) state[1];
        return saved.size();
    }

    int told(int place) {
        need(place >= 0);
        return place < told.size() ? number(new ArrayList<>(told).get(place)) : -1;
    }

    int partOf(int rule, int part) {
        needRule(rule);
        need(part >= 0 && part <= 2);
        String[] atoms = rules.get(rule);
        return part < atoms.length ? number(atoms[part]) : -1;
    }

    int found(int place, int what) {
        need(place >= 0 && what >= 0 && what <= 3);
        if (place >= now().found.size()) {
            return -1;
        }
        String fact = new ArrayList<>(now().found.keySet()).get(place);
        int[] by = now().found.get(fact);
        return what == 0 ? number(fact) : what == 3 ? instancesOf(List.of(fact)).size() : by[what - 1];
    }

    int count(int what) {
        need(what >= 0 && what <= 7);
        Outcome now = now();
        int[] numbers = {told.size(), rules.size(), now.found.size(), now.rounds, now.matches, now.dropped,
            instanceCount(now), saved.size()};
        return numbers[what];
    }

    int follows(int predicate, int first, int second) {
        String fact = fact(predicate, first, second);
        return now().found.containsKey(fact) ? 2 : anyStronger(now().found.keySet(), fact) ? 1 : 0;
    }

    int instances(int predicate, int first, int second) {
        String fact = fact(predicate, first, second);
        TreeSet<String> all = instancesOf(now().found.keySet());
        int mask = 0;
        for (String instance : instancesOf(List.of(fact))) {
            if (all.contains(instance)) {
                mask |= 1 << (4 * (instance.charAt(1) - '0') + instance.charAt(2) - '0');
            }
        }
        return mask;
    }

    int behind(int round) {
        need(round >= 0);
        List<Integer> sizes = now().sizes;
        return round < sizes.size() ? sizes.get(round) : sizes.get(sizes.size() - 1);
    }

    int without(int rule, int what) {
        needRule(rule);
        need(what >= 0 && what <= 2);
        List<String[]> others = new ArrayList<>(rules);
        others.remove(rule);
        Outcome would = outcome(told, others);
        int[] numbers = {would.found.size(), would.rounds, instanceCount(now()) - instanceCount(would)};
        return numbers[what];
    }

    int spare(int place) {
        need(place >= 0);
        if (place >= told.size()) {
            return -1;
        }
        String fact = new ArrayList<>(told).get(place);
        TreeSet<String> others = new TreeSet<>(told);
        others.remove(fact);
        Outcome would = outcome(others, rules);
        return would.found.containsKey(fact) || anyStronger(would.found.keySet(), fact) ? 1 : 0;
    }

    int richest(int predicate) {
        need(predicate >= 0 && predicate <= 3);
        int best = -1;
        int most = -1;
        for (int pair : new int[] {0, 1, 2, 3, 8, 9, 10, 11, 16, 17, 18, 19, 24, 25, 26, 27}) {
            TreeSet<String> more = new TreeSet<>(told);
            more.add(text(64 * predicate + pair));
            int many = instanceCount(outcome(more, rules));
            if (many > most) {
                most = many;
                best = pair;
            }
        }
        return best;
    }

    double byRules() {
        int all = count(6);
        return all == 0 ? 0.0 : (double) (all - instancesOf(told).size()) / all;
    }

    long digest() {
        List<Long> values = new ArrayList<>();
        for (int what = 0; what < 8; what++) {
            values.add((long) count(what));
        }
        for (int place = 0; place < told.size(); place++) {
            values.add((long) told(place));
            values.add((long) spare(place));
        }
        for (int rule = 0; rule < rules.size(); rule++) {
            for (int part = 0; part < 3; part++) {
                values.add((long) partOf(rule, part));
            }
            for (int what = 0; what < 3; what++) {
                values.add((long) without(rule, what));
            }
        }
        for (int place = 0; place < now().found.size(); place++) {
            for (int what = 0; what < 4; what++) {
                values.add((long) found(place, what));
            }
        }
        for (int round = 0; round < 4; round++) {
            values.add((long) behind(round));
        }
        for (int predicate = 0; predicate < 4; predicate++) {
            values.add((long) follows(predicate, 4, 4));
            values.add((long) instances(predicate, 4, 5));
        }
        values.add((long) richest(0));
        values.add(Double.doubleToLongBits(byRules()));
        values.add((long) buffer.length());
        for (int k = 0; k < buffer.length(); k++) {
            values.add((long) buffer.charAt(k));
        }
        long hash = 2833;
        for (long value : values) {
            hash = 31 * hash + value;
        }
        return hash;
    }

    void forget() {
        outcomes.clear();
    }
}
