import java.util.ArrayList;
import java.util.List;
import java.util.function.Supplier;

/** What the hand-made tests share: checks that tell what they are about, and laws made from texts. */
abstract class Checks {
    static final int NONE = FollowedLaws.NONE;
    static final int LEAST = Integer.MIN_VALUE;
    static final int MOST = Integer.MAX_VALUE;

    /** The pairs of terms of facts, as 8 times the first and the second together, in order. */
    static final int[] PAIRS = {0, 1, 2, 3, 4, 8, 9, 10, 11, 12, 16, 17, 18, 19, 20,
        24, 25, 26, 27, 28, 32, 33, 34, 35, 36, 37};

    static final String ARGUMENT = "IllegalArgumentException";
    static final String STATE = "IllegalStateException";
    static final String INDEX = "IndexOutOfBoundsException";

    /** What of the document is being tested. */
    static String about = "";
    static int passed;
    static int failed;

    interface Call {
        double on(FollowedLaws laws);
    }

    interface FactCall {
        int on(FollowedLaws laws, int predicate, int first, int second);
    }

    // ---- checks

    private static void tally(boolean fits, String complaint) {
        if (fits) {
            passed++;
            return;
        }
        failed++;
        System.out.println(about + ": " + complaint);
    }

    static void is(String what, double got, double want) {
        tally(got == want, what + " is " + got + ", due is " + want);
    }

    static void same(String what, String got, String want) {
        tally(got.equals(want), what + " is " + got + ", due is " + want);
    }

    static void holds(String what, boolean so) {
        tally(so, what + ": not so");
    }

    /** What a call answers: its number, or the name of what it throws. */
    static String answer(FollowedLaws laws, Call call) {
        try {
            double number = call.on(laws);
            return number == (long) number ? "" + (long) number : "" + number;
        } catch (RuntimeException e) {
            return e.getClass().getSimpleName();
        }
    }

    static void answers(FollowedLaws laws, String what, Call call, int want) {
        same(what, answer(laws, call), "" + want);
    }

    /** The call is answered by a number, whichever it is. */
    static void taken(FollowedLaws laws, String what, Call call) {
        String got = answer(laws, call);
        tally(!got.endsWith("Exception"), what + " throws " + got + ", due is a number");
    }

    /** The call throws just this exception, and all is behind it as in laws that never had the call. */
    static void refused(Supplier<FollowedLaws> made, String what, String error, Call call) {
        FollowedLaws laws = made.get();
        same(what, answer(laws, call), error);
        same("the state behind " + what, story(laws), story(made.get()));
    }

    /** The same in the midst of a run of calls. */
    static void refuses(FollowedLaws laws, String what, String error, Call call) {
        long ahead = laws.digest();
        same(what, answer(laws, call), error);
        is("digest behind " + what, laws.digest() == ahead ? 1 : 0, 1);
    }

    /** All that can be seen of a state and of the saved ones behind it, which it takes back. */
    static String story(FollowedLaws laws) {
        StringBuilder story = new StringBuilder().append(laws.firstError()).append(' ').append(laws.digest());
        for (int k = 0; k < 10 && laws.count(7) > 0; k++) {
            story.append(' ').append(laws.undo()).append(' ').append(laws.digest());
        }
        return story.toString();
    }

    /** The told facts, the rules and the found facts, but neither the buffer nor saved states. */
    static String state(FollowedLaws laws) {
        return toldIn(laws) + " | " + rulesIn(laws) + " | " + foundIn(laws);
    }

    // ---- laws and texts

    static void type(FollowedLaws laws, String text) {
        for (char sign : text.toCharArray()) {
            laws.append(sign);
        }
    }

    /** New laws with the laws of these texts, each one read by a call. */
    static FollowedLaws laws(String... texts) {
        FollowedLaws laws = new FollowedLaws();
        for (String text : texts) {
            type(laws, text);
            laws.read();
        }
        return laws;
    }

    /** New laws with a text in the buffer, and before it laws that were read. */
    static FollowedLaws typed(String text, String... texts) {
        FollowedLaws laws = laws(texts);
        type(laws, text);
        return laws;
    }

    /** How often a text stands behind itself, with a mark between. */
    static String often(int times, String text, String mark) {
        return String.join(mark, java.util.Collections.nCopies(times, text));
    }

    static String toldIn(FollowedLaws laws) {
        List<String> all = new ArrayList<>();
        for (int place = 0; laws.told(place) != NONE; place++) {
            all.add(Model.text(laws.told(place)));
        }
        return String.join(";", all);
    }

    static String rulesIn(FollowedLaws laws) {
        List<String> all = new ArrayList<>();
        for (int rule = 0; rule < laws.count(1); rule++) {
            String text = Model.text(laws.partOf(rule, 0)) + "<" + Model.text(laws.partOf(rule, 1));
            all.add(laws.partOf(rule, 2) == NONE ? text : text + "&" + Model.text(laws.partOf(rule, 2)));
        }
        return String.join(";", all);
    }

    /** The facts that are found at the end. */
    static String foundIn(FollowedLaws laws) {
        List<String> all = new ArrayList<>();
        for (int place = 0; laws.found(place, 0) != NONE; place++) {
            all.add(Model.text(laws.found(place, 0)));
        }
        return String.join(";", all);
    }

    static void finds(String text, String found) {
        same("found in " + text, foundIn(laws(text)), found);
    }

    /** The number of a fact as the document tells it, from its text. */
    static int fact(String text) {
        return Model.number(text);
    }

    /** The round and the rule by which a fact was found, "-" if it is not found. */
    static String origin(FollowedLaws laws, String fact) {
        for (int place = 0; laws.found(place, 0) != NONE; place++) {
            if (laws.found(place, 0) == fact(fact)) {
                return laws.found(place, 1) + " by " + laws.found(place, 2);
            }
        }
        return "-";
    }

    /** The digest as the document tells it, from the other calls. */
    static long hash(FollowedLaws laws, String buffer) {
        List<Long> values = new ArrayList<>();
        for (int what = 0; what <= 7; what++) {
            values.add((long) laws.count(what));
        }
        for (int place = 0; place < laws.count(0); place++) {
            values.add((long) laws.told(place));
            values.add((long) laws.spare(place));
        }
        for (int rule = 0; rule < laws.count(1); rule++) {
            for (int part = 0; part <= 2; part++) {
                values.add((long) laws.partOf(rule, part));
            }
            for (int what = 0; what <= 2; what++) {
                values.add((long) laws.without(rule, what));
            }
        }
        for (int place = 0; place < laws.count(2); place++) {
            for (int what = 0; what <= 3; what++) {
                values.add((long) laws.found(place, what));
            }
        }
        for (int round = 0; round <= 3; round++) {
            values.add((long) laws.behind(round));
        }
        for (int predicate = 0; predicate < 4; predicate++) {
            values.add((long) laws.follows(predicate, 4, 4));
            values.add((long) laws.instances(predicate, 4, 5));
        }
        values.add((long) laws.richest(0));
        values.add(Double.doubleToLongBits(laws.byRules()));
        values.add((long) buffer.length());
        for (char sign : buffer.toCharArray()) {
            values.add((long) sign);
        }
        return hashOf(values);
    }

    static long hashOf(List<Long> values) {
        long hash = 2833;
        for (long value : values) {
            hash = 31 * hash + value;
        }
        return hash;
    }
}
