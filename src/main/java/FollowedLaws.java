import java.util.Arrays;

/**
 * Laws with places for terms: told facts, rules that find more facts in rounds, questions about
 * what follows, what would be without a law, laws as texts, and undo.
 *
 * <p>A fact, a head and a part of a rule are all kept as one number, called an atom here: 64 times
 * the predicate, 8 times the first term and the second term together.
 */
public final class FollowedLaws {
    public static final int NONE = -1;

    private static final int PREDICATES = 4;
    private static final int CONSTANTS = 4;
    private static final int MOST_TOLD = 12;
    private static final int MOST_RULES = 6;
    private static final int MOST_SAVED = 6;
    private static final int MOST_SIGNS = 60;

    private final Laws laws;
    private final Laws[] saved;
    private int savedCount;
    private final Text buffer;
    private final LawReader reader;

    /** What is found with the laws as they are; run anew behind each change. */
    private final Rounds now;

    /** Rows for the laws that would be, and for what would be found with them. */
    private final Laws supposed;
    private final Rounds wouldBe;

    public FollowedLaws() {
        laws = new Laws();
        saved = new Laws[MOST_SAVED];
        for (int k = 0; k < saved.length; k++) {
            saved[k] = new Laws();
        }
        buffer = new Text();
        reader = new LawReader();
        now = new Rounds();
        supposed = new Laws();
        wouldBe = new Rounds();
    }

    // ---- laws

    public int tell(int predicate, int first, int second)
            throws IllegalArgumentException, IllegalStateException {
        if (!Atom.isFact(predicate, first, second)) {
            throw new IllegalArgumentException("this is no fact");
        }
        int fact = Atom.of(predicate, first, second);
        if (!laws.told.has(fact) && laws.told.size() >= MOST_TOLD) {
            throw new IllegalStateException("12 facts are told");
        }
        save();
        laws.told.put(fact);
        now.run(laws);
        return laws.told.size();
    }

    public int untell(int predicate, int first, int second) throws IllegalArgumentException {
        if (!Atom.isFact(predicate, first, second)) {
            throw new IllegalArgumentException("this is no fact");
        }
        int fact = Atom.of(predicate, first, second);
        boolean wasThere = laws.told.has(fact);
        save();
        laws.told.take(fact);
        now.run(laws);
        return wasThere ? 1 : 0;
    }

    public int rule(int head, int part) throws IllegalArgumentException, IllegalStateException {
        if (!Atom.isAtom(head) || !Atom.isAtom(part)) {
            throw new IllegalArgumentException("a part is 0 to 255");
        }
        if (laws.ruleCount() >= MOST_RULES) {
            throw new IllegalStateException("there are 6 rules");
        }
        return addedRule(head, part, NONE);
    }

    public int joining(int head, int one, int other)
            throws IllegalArgumentException, IllegalStateException {
        if (!Atom.isAtom(head) || !Atom.isAtom(one) || !Atom.isAtom(other)) {
            throw new IllegalArgumentException("a part is 0 to 255");
        }
        if (laws.ruleCount() >= MOST_RULES) {
            throw new IllegalStateException("there are 6 rules");
        }
        return addedRule(head, one, other);
    }

    public int remove(int rule) throws IndexOutOfBoundsException {
        if (!laws.hasRule(rule)) {
            throw new IndexOutOfBoundsException("there is no such rule");
        }
        save();
        laws.dropRule(rule);
        now.run(laws);
        return laws.ruleCount();
    }

    public int settle() throws IllegalStateException {
        if (now.held.size() > MOST_TOLD) {
            throw new IllegalStateException("more than 12 facts are found");
        }
        save();
        laws.told.copyOf(now.held);
        now.run(laws);
        return laws.told.size();
    }

    // ---- texts

    public int append(int code) throws IllegalArgumentException, IllegalStateException {
        if (code < 33 || code > 126) {
            throw new IllegalArgumentException("a code is 33 to 126");
        }
        if (buffer.size() >= MOST_SIGNS) {
            throw new IllegalStateException("the buffer is full");
        }
        buffer.put(code);
        return buffer.size();
    }

    public int clearBuffer() {
        int length = buffer.size();
        buffer.empty();
        return length;
    }

    public int firstError() {
        return reader.errorIn(buffer);
    }

    public int read() throws IllegalArgumentException, IllegalStateException {
        if (reader.errorIn(buffer) < buffer.size() || !reader.standsBehindLaw()) {
            throw new IllegalArgumentException("the buffer is no laws");
        }
        supposed.copyOf(laws);
        int many = reader.putLaws(buffer, supposed);
        if (many == NONE || supposed.told.size() > MOST_TOLD) {
            throw new IllegalStateException("there is no room for these laws");
        }
        save();
        laws.copyOf(supposed);
        now.run(laws);
        buffer.empty();
        return many;
    }

    public int undo() throws IllegalStateException {
        if (savedCount <= 0 || savedCount > saved.length) {
            throw new IllegalStateException("no state is saved");
        }
        savedCount--;
        laws.copyOf(saved[savedCount]);
        now.run(laws);
        return savedCount;
    }

    // ---- looks; nothing is changed

    public int told(int place) throws IllegalArgumentException {
        if (place < 0) {
            throw new IllegalArgumentException("a place is 0 or more");
        }
        return laws.told.at(place);
    }

    public int partOf(int rule, int part)
            throws IndexOutOfBoundsException, IllegalArgumentException {
        if (!laws.hasRule(rule)) {
            throw new IndexOutOfBoundsException("there is no such rule");
        }
        if (part < 0 || part > 2) {
            throw new IllegalArgumentException("a part is 0 to 2");
        }
        return laws.atomAt(rule, part);
    }

    public int found(int place, int what) throws IllegalArgumentException {
        if (place < 0 || what < 0 || what > 3) {
            throw new IllegalArgumentException("a place is 0 or more, what is 0 to 3");
        }
        int fact = now.held.at(place);
        if (fact == NONE) {
            return NONE;
        }
        switch (what) {
            case 0: return fact;
            case 1: return now.roundOf(fact);
            case 2: return now.ruleOf(fact);
            default: return Integer.bitCount(Atom.instanceMask(fact));
        }
    }

    public int count(int what) throws IllegalArgumentException {
        if (what < 0 || what > 7) {
            throw new IllegalArgumentException("what is 0 to 7");
        }
        switch (what) {
            case 0: return laws.told.size();
            case 1: return laws.ruleCount();
            case 2: return now.held.size();
            case 3: return now.rounds;
            case 4: return now.matches;
            case 5: return now.dropped;
            case 6: return now.held.instanceCount();
            default: return savedCount;
        }
    }

    public int follows(int predicate, int first, int second) throws IllegalArgumentException {
        if (!Atom.isFact(predicate, first, second)) {
            throw new IllegalArgumentException("this is no fact");
        }
        int fact = Atom.of(predicate, first, second);
        if (now.held.has(fact)) {
            return 2;
        }
        return now.following.has(fact) ? 1 : 0;
    }

    public int instances(int predicate, int first, int second) throws IllegalArgumentException {
        if (!Atom.isFact(predicate, first, second)) {
            throw new IllegalArgumentException("this is no fact");
        }
        int fact = Atom.of(predicate, first, second);
        return Atom.instanceMask(fact) & now.held.instancesWith(predicate);
    }

    public int behind(int round) throws IllegalArgumentException {
        if (round < 0) {
            throw new IllegalArgumentException("a round is 0 or more");
        }
        return now.sizeBehind(round);
    }

    // ---- what would be; nothing is changed

    public int without(int rule, int what)
            throws IndexOutOfBoundsException, IllegalArgumentException {
        if (!laws.hasRule(rule)) {
            throw new IndexOutOfBoundsException("there is no such rule");
        }
        if (what < 0 || what > 2) {
            throw new IllegalArgumentException("what is 0 to 2");
        }
        supposed.copyOf(laws);
        supposed.dropRule(rule);
        wouldBe.run(supposed);
        switch (what) {
            case 0: return wouldBe.held.size();
            case 1: return wouldBe.rounds;
            default: return now.held.instanceCount() - wouldBe.held.instanceCount();
        }
    }

    public int spare(int place) throws IllegalArgumentException {
        if (place < 0) {
            throw new IllegalArgumentException("a place is 0 or more");
        }
        int fact = laws.told.at(place);
        if (fact == NONE) {
            return NONE;
        }
        supposed.copyOf(laws);
        supposed.told.take(fact);
        wouldBe.run(supposed);
        return wouldBe.following.has(fact) ? 1 : 0;
    }

    public int richest(int predicate) throws IllegalArgumentException {
        if (predicate < 0 || predicate >= PREDICATES) {
            throw new IllegalArgumentException("a predicate is 0 to 3");
        }
        int best = 0;
        int most = NONE;
        for (int first = 0; first < CONSTANTS; first++) {
            for (int second = 0; second < CONSTANTS; second++) {
                supposed.copyOf(laws);
                supposed.told.put(Atom.of(predicate, first, second));
                wouldBe.run(supposed);
                int many = wouldBe.held.instanceCount();
                if (many > most) {
                    most = many;
                    best = Atom.of(0, first, second);
                }
            }
        }
        return best;
    }

    public double byRules() {
        int all = now.held.instanceCount();
        if (all == 0) {
            return 0.0;
        }
        return (double) (all - laws.told.instanceCount()) / (double) all;
    }

    public long digest() {
        long hash = 2833L;
        for (int what = 0; what <= 7; what++) {
            hash = 31L * hash + count(what);
        }
        for (int place = 0; place < laws.told.size(); place++) {
            hash = 31L * hash + told(place);
            hash = 31L * hash + spare(place);
        }
        for (int rule = 0; rule < laws.ruleCount(); rule++) {
            for (int part = 0; part <= 2; part++) {
                hash = 31L * hash + partOf(rule, part);
            }
            for (int what = 0; what <= 2; what++) {
                hash = 31L * hash + without(rule, what);
            }
        }
        int many = count(2);
        for (int place = 0; place < many; place++) {
            for (int what = 0; what <= 3; what++) {
                hash = 31L * hash + found(place, what);
            }
        }
        for (int round = 0; round <= 3; round++) {
            hash = 31L * hash + behind(round);
        }
        for (int predicate = 0; predicate < PREDICATES; predicate++) {
            hash = 31L * hash + follows(predicate, Atom.X, Atom.X);
            hash = 31L * hash + instances(predicate, Atom.X, Atom.Y);
        }
        hash = 31L * hash + richest(0);
        hash = 31L * hash + bitsOf(byRules());
        hash = 31L * hash + buffer.size();
        for (int index = 0; index < buffer.size(); index++) {
            hash = 31L * hash + buffer.at(index);
        }
        return hash;
    }

    private int addedRule(int head, int one, int other) {
        save();
        laws.addRule(head, one, other);
        now.run(laws);
        return laws.ruleCount() - 1;
    }

    private void save() {
        if (savedCount >= saved.length) {
            dropOldest();
        }
        if (savedCount >= 0 && savedCount < saved.length) {
            saved[savedCount].copyOf(laws);
            savedCount++;
        }
    }

    /** The rows of the oldest saved state go behind the others, to be used again. */
    private void dropOldest() {
        Laws oldest = saved[0];
        for (int k = 1; k < saved.length; k++) {
            saved[k - 1] = saved[k];
        }
        saved[saved.length - 1] = oldest;
        savedCount = saved.length - 1;
    }

    /**
     * The bits of a share from 0 to 1 as Double.doubleToLongBits has them; LANGUAGE.md leaves no
     * call of Double. All steps are exact: doubling, taking 1 away, and the cast of 52 bits.
     */
    private static long bitsOf(double share) {
        if (!(share > 0.0)) {
            return 0L;
        }
        double scaled = share;
        long exponent = 1023L;
        for (int k = 0; k < 1022 && scaled < 1.0; k++) {
            scaled = scaled * 2.0;
            exponent--;
        }
        long fraction = (long) ((scaled - 1.0) * (double) (1L << 52));
        return (exponent << 52) | fraction;
    }

    /** What an atom's number tells: its predicate, its terms, and as a fact its instances. */
    private static final class Atom {
        static final int X = 4;
        static final int Y = 5;

        /** How many atoms there are. */
        static final int ALL = 256;

        /** The pairs of terms of facts are below this one: x and y, 8 * 4 + 5, is the last one. */
        static final int PAIRS = 38;

        static boolean isAtom(int atom) {
            return atom >= 0 && atom < ALL;
        }

        static boolean isFact(int predicate, int first, int second) {
            if (predicate < 0 || predicate >= PREDICATES || first < 0 || second < 0) {
                return false;
            }
            return first < X ? second <= X : first == X && second <= Y;
        }

        static int of(int predicate, int first, int second) {
            return 64 * predicate + 8 * first + second;
        }

        static int predicate(int atom) {
            return (atom >> 6) & 3;
        }

        static int pair(int atom) {
            return atom & 63;
        }

        static int first(int atom) {
            return (atom >> 3) & 7;
        }

        static int second(int atom) {
            return atom & 7;
        }

        /** The pairs of terms that make a fact stronger than one with this pair, as a mask. */
        static long strongerPairs(int pair) {
            int first = first(pair);
            int second = second(pair);
            if (first > X || second > X) {
                return 0L;
            }
            long open = 1L << of(0, X, Y);
            if (first == X || second == X) {
                return open;
            }
            long halves = (1L << of(0, first, X)) | (1L << of(0, X, second));
            return open | halves | (first == second ? 1L << of(0, X, X) : 0L);
        }

        /** The instances of a fact, with the bit 4 * f + s for the constants f and s. */
        static int instanceMask(int fact) {
            int first = first(fact);
            int second = second(fact);
            if (first < X) {
                return second < X ? 1 << (4 * first + second) : 15 << (4 * first);
            }
            if (second < X) {
                return 0x1111 << second;
            }
            return second == X ? 0x8421 : 0xffff;
        }
    }

    /** A set of facts: for each predicate a mask of the pairs of terms, so it is always in order. */
    private static final class Facts {
        private final long[] masks = new long[PREDICATES];

        boolean has(int fact) {
            return ((masks[Atom.predicate(fact)] >>> Atom.pair(fact)) & 1L) != 0L;
        }

        void put(int fact) {
            masks[Atom.predicate(fact)] |= 1L << Atom.pair(fact);
        }

        void take(int fact) {
            masks[Atom.predicate(fact)] &= ~(1L << Atom.pair(fact));
        }

        void empty() {
            for (int p = 0; p < masks.length; p++) {
                masks[p] = 0L;
            }
        }

        void copyOf(Facts from) {
            for (int p = 0; p < masks.length; p++) {
                masks[p] = from.masks[p];
            }
        }

        void putAll(Facts from) {
            for (int p = 0; p < masks.length; p++) {
                masks[p] |= from.masks[p];
            }
        }

        int size() {
            int size = 0;
            for (int p = 0; p < masks.length; p++) {
                size += Long.bitCount(masks[p]);
            }
            return size;
        }

        /** The fact at this place in the order of facts, NONE if there are not so many. */
        int at(int place) {
            int left = place;
            for (int fact = 0; fact < Atom.ALL; fact++) {
                if (has(fact)) {
                    if (left == 0) {
                        return fact;
                    }
                    left--;
                }
            }
            return NONE;
        }

        /** Whether the fact with this atom's predicate and this pair of terms is there. */
        boolean hasPair(int atom, int pair) {
            return ((masks[Atom.predicate(atom)] >>> pair) & 1L) != 0L;
        }

        /** Drops all facts than which another one here is stronger, and tells how many. */
        int dropWeaker() {
            int ahead = size();
            for (int p = 0; p < masks.length; p++) {
                masks[p] &= ~weakerPairs(masks[p]);
            }
            return ahead - size();
        }

        /** Becomes all facts that follow from these: they, and those than which one is stronger. */
        void allFrom(Facts these) {
            for (int p = 0; p < masks.length; p++) {
                masks[p] = these.masks[p] | weakerPairs(these.masks[p]);
            }
        }

        /** The pairs of terms than which one of these is stronger. */
        private static long weakerPairs(long these) {
            long weaker = 0L;
            for (int pair = 0; pair < Atom.PAIRS; pair++) {
                if ((these & Atom.strongerPairs(pair)) != 0L) {
                    weaker |= 1L << pair;
                }
            }
            return weaker;
        }

        /** The instances of all facts with this predicate, as in Atom.instanceMask. */
        int instancesWith(int predicate) {
            if (predicate < 0 || predicate >= masks.length) {
                return 0;
            }
            int all = 0;
            for (int pair = 0; pair < Atom.PAIRS; pair++) {
                if (((masks[predicate] >>> pair) & 1L) != 0L) {
                    all |= Atom.instanceMask(pair);
                }
            }
            return all;
        }

        int instanceCount() {
            int many = 0;
            for (int p = 0; p < masks.length; p++) {
                many += Integer.bitCount(instancesWith(p));
            }
            return many;
        }
    }

    /** The state that undo saves: the told facts and the rules. */
    private static final class Laws {
        private static final int ROW = 3;

        final Facts told = new Facts();

        /** For each rule a row: its head, its first part, and its second part or NONE. */
        private final int[] rows = new int[ROW * MOST_RULES];
        private int rules;

        int ruleCount() {
            return rules;
        }

        boolean hasRule(int rule) {
            return rule >= 0 && rule < rules;
        }

        int atomAt(int rule, int part) {
            int index = ROW * rule + part;
            return index >= 0 && index < rows.length ? rows[index] : NONE;
        }

        /** Adds a rule; tells whether there was room for it. */
        boolean addRule(int head, int one, int other) {
            int index = ROW * rules;
            if (index < 0 || index + 2 >= rows.length) {
                return false;
            }
            rows[index] = head;
            rows[index + 1] = one;
            rows[index + 2] = other;
            rules++;
            return true;
        }

        void dropRule(int rule) {
            if (!hasRule(rule)) {
                return;
            }
            for (int index = ROW * rule; index + ROW < rows.length; index++) {
                rows[index] = rows[index + ROW];
            }
            rules--;
        }

        void copyOf(Laws from) {
            told.copyOf(from.told);
            for (int index = 0; index < rows.length; index++) {
                rows[index] = from.rows[index];
            }
            rules = from.rules;
        }
    }

    /**
     * How terms are made alike. Terms are 0 to 3, the constants, 4 to 7, the places of the rule, 8
     * and 9, the places of the fact chosen for its first part, and 10 and 11, those of the other
     * one. The links are four bits for each term: the lowest term that it was made the same as.
     */
    private static final class Alike {
        static final long APART = 0xba9876543210L;
        static final long FAILED = -1L;

        /** What is added to a place of a fact, to have it apart from all others. */
        static final int OF_FIRST_FACT = 4;
        static final int OF_OTHER_FACT = 6;

        private static final int TERMS = 12;

        /** Makes a part alike with a fact's pair of terms; FAILED if that can't be done. */
        static long withFact(long links, int part, int pair, int apart) {
            long half = joined(links, Atom.first(part), ownTerm(Atom.first(pair), apart));
            if (half == FAILED) {
                return FAILED;
            }
            return joined(half, Atom.second(part), ownTerm(Atom.second(pair), apart));
        }

        /** The head with what its terms have become. */
        static int result(long links, int head) {
            int one = become(links, Atom.first(head));
            int other = become(links, Atom.second(head));
            int first = one < CONSTANTS ? one : Atom.X;
            int second = other;
            if (other >= CONSTANTS) {
                second = one < CONSTANTS || one == other ? Atom.X : Atom.Y;
            }
            return Atom.of(Atom.predicate(head), first, second);
        }

        private static int ownTerm(int term, int apart) {
            return term < CONSTANTS ? term : term + apart;
        }

        private static int become(long links, int term) {
            return (int) (links >>> (4 * term)) & 15;
        }

        private static long joined(long links, int one, int other) {
            int a = become(links, one);
            int b = become(links, other);
            if (a == b) {
                return links;
            }
            int low = Math.min(a, b);
            int high = Math.max(a, b);
            if (high < CONSTANTS) {
                return FAILED;
            }
            long after = links;
            for (int term = high; term < TERMS; term++) {
                if (become(links, term) == high) {
                    after -= (long) (high - low) << (4 * term);
                }
            }
            return after;
        }
    }

    /** The rounds over some laws: what is found in them, when, and by what. */
    private static final class Rounds {
        /**
         * Each round that counts lets one more of the 104 facts follow, and some follow ahead of
         * the rounds, so that fewer count; one more finds nothing new.
         */
        private static final int MOST = 104;

        final Facts held = new Facts();

        /** What is held, and all than which a held fact is stronger. */
        final Facts following = new Facts();
        int rounds;
        int matches;
        int dropped;

        private final Facts fresh = new Facts();
        private final int[] roundOf = new int[Atom.ALL];
        private final int[] ruleOf = new int[Atom.ALL];
        private final int[] sizes = new int[MOST + 1];

        int roundOf(int fact) {
            return Atom.isAtom(fact) ? roundOf[fact] : NONE;
        }

        int ruleOf(int fact) {
            return Atom.isAtom(fact) ? ruleOf[fact] : NONE;
        }

        /** How many facts were found behind a round, or behind the last one. */
        int sizeBehind(int round) {
            int index = Math.min(round, rounds);
            return index >= 0 && index < sizes.length ? sizes[index] : 0;
        }

        void run(Laws laws) {
            Arrays.fill(roundOf, 0);
            Arrays.fill(ruleOf, NONE);
            rounds = 0;
            matches = 0;
            held.copyOf(laws.told);
            dropped = held.dropWeaker();
            following.allFrom(held);
            sizes[0] = held.size();
            for (int round = 1; round < sizes.length; round++) {
                fresh.empty();
                for (int rule = 0; rule < laws.ruleCount(); rule++) {
                    playRule(laws, rule);
                }
                if (fresh.size() == 0) {
                    return;
                }
                rounds = round;
                held.putAll(fresh);
                dropped += held.dropWeaker();
                following.allFrom(held);
                sizes[round] = held.size();
            }
        }

        private void playRule(Laws laws, int rule) {
            int head = laws.atomAt(rule, 0);
            int one = laws.atomAt(rule, 1);
            int other = laws.atomAt(rule, 2);
            for (int pair = 0; pair < Atom.PAIRS; pair++) {
                if (!held.hasPair(one, pair)) {
                    continue;
                }
                long half = Alike.withFact(Alike.APART, one, pair, Alike.OF_FIRST_FACT);
                if (half == Alike.FAILED) {
                    continue;
                }
                if (other == NONE) {
                    takeMatch(half, head, rule);
                    continue;
                }
                for (int second = 0; second < Atom.PAIRS; second++) {
                    if (held.hasPair(other, second)) {
                        long both = Alike.withFact(half, other, second, Alike.OF_OTHER_FACT);
                        takeMatch(both, head, rule);
                    }
                }
            }
        }

        private void takeMatch(long links, int head, int rule) {
            if (links == Alike.FAILED) {
                return;
            }
            matches++;
            int fact = Alike.result(links, head);
            if (following.has(fact) || fresh.has(fact)) {
                return;
            }
            fresh.put(fact);
            if (Atom.isAtom(fact)) {
                roundOf[fact] = rounds + 1;
                ruleOf[fact] = rule;
            }
        }
    }

    /** The buffer. */
    private static final class Text {
        private final int[] signs = new int[MOST_SIGNS];
        private int length;

        int size() {
            return length;
        }

        int at(int index) {
            return index >= 0 && index < length && index < signs.length ? signs[index] : NONE;
        }

        void put(int sign) {
            if (length >= 0 && length < signs.length) {
                signs[length] = sign;
                length++;
            }
        }

        void empty() {
            length = 0;
        }
    }

    /**
     * Reads laws sign by sign. A law is one to three atoms, each a letter, two terms, and a mark
     * behind it: "<" or "&" if the law goes on, ";" if another law does.
     */
    private static final class LawReader {
        private static final int LETTER = 0;
        private static final int FIRST_TERM = 1;
        private static final int MARK = 3;

        /** The atoms of the law that is being read, which one of them, and what of it is next. */
        private final int[] atoms = new int[3];
        private int atom;
        private int next;

        /** The index of the first sign that is an error, the text's length if there is none. */
        int errorIn(Text text) {
            begin();
            for (int index = 0; index < text.size(); index++) {
                if (!takes(text.at(index))) {
                    return index;
                }
            }
            return text.size();
        }

        /** Whether a law may end here; without "<" it must be a fact. */
        boolean standsBehindLaw() {
            if (next != MARK) {
                return false;
            }
            return atom > 0 || Atom.isFact(Atom.predicate(atoms[0]),
                    Atom.first(atoms[0]), Atom.second(atoms[0]));
        }

        /** Puts the laws of a text without error; tells how many, NONE if a rule has no room. */
        int putLaws(Text text, Laws into) {
            begin();
            int many = 0;
            for (int index = 0; index <= text.size(); index++) {
                if (index == text.size() || text.at(index) == ';') {
                    many++;
                    if (!putLaw(into)) {
                        return NONE;
                    }
                }
                takes(text.at(index));
            }
            return many;
        }

        private void begin() {
            atom = 0;
            next = LETTER;
        }

        private boolean putLaw(Laws into) {
            if (atom == 0) {
                into.told.put(atoms[0]);
                return true;
            }
            return into.addRule(atoms[0], atoms[1], atom == 2 ? atoms[2] : NONE);
        }

        private boolean takes(int sign) {
            if (next == MARK) {
                return takesMark(sign);
            }
            int number = next == LETTER ? letterOf(sign) : termOf(sign);
            if (number == NONE || atom < 0 || atom >= atoms.length) {
                return false;
            }
            if (next == LETTER) {
                atoms[atom] = Atom.of(number, 0, 0);
            } else {
                atoms[atom] += next == FIRST_TERM ? Atom.of(0, number, 0) : number;
            }
            next++;
            return true;
        }

        private boolean takesMark(int sign) {
            if (sign == ';' && standsBehindLaw()) {
                begin();
                return true;
            }
            if (sign == '<' && atom == 0 || sign == '&' && atom == 1) {
                atom++;
                next = LETTER;
                return true;
            }
            return false;
        }

        private static int letterOf(int sign) {
            return sign >= 'a' && sign <= 'd' ? sign - 'a' : NONE;
        }

        private static int termOf(int sign) {
            switch (sign) {
                case 'x': return Atom.X;
                case 'y': return Atom.Y;
                case 'z': return 6;
                case 'w': return 7;
                default: return sign >= '0' && sign <= '3' ? sign - '0' : NONE;
            }
        }
    }
}
