import java.util.ArrayList;
import java.util.Collections;
import java.util.List;
import java.util.function.Supplier;

/** The sentences of "Promise 1" to "Promise 24". */
abstract class PromiseSentences extends TermSentences {
    private static final String NO_FACT =
            "Throws `IllegalArgumentException` if an argument is out of range, or these are no terms of a fact";
    private static final String NO_RULE = "Throws `IndexOutOfBoundsException` if there is no such rule";
    private static final String TWELVE = ELEVEN + ";a23";
    private static final String FIVE_RULES = "b00<a00;c00<a00;d00<a00;b11<a00&a00;c11<a00";

    static void all() {
        newObject();
        tell();
        untell();
        rule();
        joining();
        remove();
        settle();
        append();
        clearBuffer();
        firstError();
        read();
        undoOne();
        told();
        partOf();
        found();
        count();
        follows();
        instances();
        behind();
        without();
        spare();
        richest();
        byRules();
        digest();
    }

    private static void newObject() {
        section("Promise 1: A new object");
        says("Creates no laws, with an empty buffer.", () -> {
            for (int what = 0; what <= 7; what++) {
                is("count(" + what + ")", new FollowedLaws().count(what), 0);
            }
            is("length of the buffer", new FollowedLaws().clearBuffer(), 0);
            same("told", toldIn(new FollowedLaws()), "");
            same("found", foundIn(new FollowedLaws()), "");
            refused(FollowedLaws::new, "partOf", INDEX, laws -> laws.partOf(0, 0));
            refused(FollowedLaws::new, "undo", STATE, FollowedLaws::undo);
            FollowedLaws other = SOME.get();
            same("a new one beside another one", state(new FollowedLaws()), " |  | ");
            same("which stays", story(other), story(SOME.get()));
        });
    }

    // ---- what is said of the arguments of tell, untell, follows and instances alike

    private static void factArguments(FactCall call) {
        says("`predicate`: 0 to 3", () -> {
            taken(SOME.get(), "the predicate 0", laws -> call.on(laws, 0, 0, 0));
            taken(SOME.get(), "the predicate 3", laws -> call.on(laws, 3, 0, 0));
            for (int wrong : new int[] {-1, 4, 5, 8, 255, LEAST, MOST}) {
                refused(SOME, "the predicate " + wrong, ARGUMENT, laws -> call.on(laws, wrong, 0, 0));
            }
        });
        says("`first`: its first term, 0 to 4", () -> {
            taken(SOME.get(), "the first term 0", laws -> call.on(laws, 0, 0, 4));
            taken(SOME.get(), "the first term 3", laws -> call.on(laws, 0, 3, 4));
            taken(SOME.get(), "the first term 4", laws -> call.on(laws, 0, 4, 4));
            for (int wrong : new int[] {-1, 5, 6, 7, 8, LEAST, MOST}) {
                refused(SOME, "the first term " + wrong, ARGUMENT, laws -> call.on(laws, 0, wrong, 4));
                refused(SOME, "the first term " + wrong + " beside a constant", ARGUMENT, laws -> call.on(laws, 0, wrong, 0));
            }
        });
        says("`second`: its second term, 0 to 5", () -> {
            taken(SOME.get(), "the second term 0", laws -> call.on(laws, 0, 4, 0));
            taken(SOME.get(), "the second term 4", laws -> call.on(laws, 0, 4, 4));
            taken(SOME.get(), "the second term 5", laws -> call.on(laws, 0, 4, 5));
            for (int wrong : new int[] {-1, 6, 7, 8, LEAST, MOST}) {
                refused(SOME, "the second term " + wrong, ARGUMENT, laws -> call.on(laws, 0, 4, wrong));
            }
        });
    }

    private static void noFact(FactCall call) {
        says(NO_FACT, () -> {
            for (int first = 0; first <= 4; first++) {
                for (int second = 0; second <= 5; second++) {
                    int f = first;
                    int s = second;
                    if (isFact(f, s)) {
                        taken(SOME.get(), "the terms " + f + " and " + s, laws -> call.on(laws, 2, f, s));
                    } else {
                        refused(SOME, "the terms " + f + " and " + s, ARGUMENT, laws -> call.on(laws, 2, f, s));
                    }
                }
            }
            refused(SOME, "the predicate 4", ARGUMENT, laws -> call.on(laws, 4, 0, 0));
            refused(SOME, "the first term 5", ARGUMENT, laws -> call.on(laws, 0, 5, 5));
            refused(SOME, "the second term 6", ARGUMENT, laws -> call.on(laws, 0, 4, 6));
        });
    }

    /** The call is undone by undo, and by nothing less. */
    private static void undoable(Supplier<FollowedLaws> made, Call call) {
        FollowedLaws laws = made.get();
        String ahead = state(laws);
        int states = laws.count(7);
        call.on(laws);
        is("saved states", laws.count(7), states + 1);
        holds("it changes something", !state(laws).equals(ahead));
        answers(laws, "undo", FollowedLaws::undo, states);
        same("undone", state(laws), ahead);
    }

    /** The call saves a state, though nothing changes. */
    private static void idle(Supplier<FollowedLaws> made, Call call) {
        FollowedLaws laws = made.get();
        String ahead = state(laws);
        int states = laws.count(7);
        call.on(laws);
        same("nothing changes", state(laws), ahead);
        is("saved states, if nothing changes", laws.count(7), states + 1);
    }

    // ---- laws

    private static void tell() {
        section("Promise 2: tell");
        says("Tells a fact.", () -> {
            for (int predicate = 0; predicate < 4; predicate++) {
                for (int pair : PAIRS) {
                    FollowedLaws laws = new FollowedLaws();
                    laws.tell(predicate, pair / 8, pair % 8);
                    is("told", laws.told(0), 64 * predicate + pair);
                    is("found", laws.found(0, 0), 64 * predicate + pair);
                }
            }
            FollowedLaws laws = laws("a0x;b00<a11");
            laws.tell(0, 1, 1);
            same("found with it", foundIn(laws), "a0x;a11;b00");
            laws.tell(0, 0, 1);
            same("told, also if a stronger one is", toldIn(laws), "a01;a0x;a11");
        });
        says("Undoable.", () -> {
            undoable(SOME, laws -> laws.tell(3, 0, 0));
            idle(SOME, laws -> laws.tell(0, 0, 4));
        });
        factArguments(FollowedLaws::tell);
        says("Returns how many told facts there are then (as many as ahead, if it was there).", () -> {
            FollowedLaws laws = new FollowedLaws();
            for (int k = 0; k < 12; k++) {
                int first = k / 4;
                int second = k % 4;
                answers(laws, "a new one", l -> l.tell(1, first, second), k + 1);
                answers(laws, "one that was there", l -> l.tell(1, first, second), k + 1);
                answers(laws, "the first one again", l -> l.tell(1, 0, 0), k + 1);
            }
        });
        noFact(FollowedLaws::tell);
        says("Throws `IllegalStateException` if it was not there, and there are 12 told facts", () -> {
            answers(laws(ELEVEN), "it was not there, and there are 11", laws -> laws.tell(1, 0, 0), 12);
            refused(() -> laws(TWELVE), "it was not there, and there are 12", STATE, laws -> laws.tell(1, 0, 0));
            refused(() -> laws(TWELVE), "only a weaker one was there", STATE, laws -> laws.tell(0, 0, 4));
            refused(() -> laws(ELEVEN, "axy"), "only a stronger one was there", STATE, laws -> laws.tell(0, 2, 3));
            answers(laws(TWELVE), "it was there, and there are 12", laws -> laws.tell(0, 2, 3), 12);
            FollowedLaws laws = laws(TWELVE);
            laws.untell(0, 0, 0);
            answers(laws, "one is taken back", l -> l.tell(1, 0, 0), 12);
        });
    }

    private static void untell() {
        section("Promise 3: untell");
        says("Takes back a told fact.", () -> {
            FollowedLaws laws = laws("a0x;a00;b11;c00<b11");
            laws.untell(1, 1, 1);
            same("told", toldIn(laws), "a00;a0x");
            same("found", foundIn(laws), "a0x");
            laws.untell(0, 0, 4);
            same("but no weaker one", toldIn(laws), "a00");
            laws.untell(0, 0, 0);
            same("the last one", toldIn(laws), "");
            String[] comparable = {"a00", "a01", "a0x", "a10", "a11", "a1x", "ax0", "ax1", "axx", "axy", "bxy"};
            for (String gone : comparable) {
                List<String> left = new ArrayList<>(List.of(comparable));
                left.remove(gone);
                FollowedLaws all = laws(String.join(";", comparable));
                all.untell(gone.charAt(0) - 'a', TERMS.indexOf(gone.charAt(1)), TERMS.indexOf(gone.charAt(2)));
                same("told without " + gone, toldIn(all), String.join(";", left));
            }
            FollowedLaws rules = laws("a00;b00<a00;b11;b11<a00");
            rules.untell(1, 1, 1);
            same("a rule finds it again", foundIn(rules), "a00;b00;b11");
        });
        says("Undoable.", () -> {
            undoable(SOME, laws -> laws.untell(1, 1, 1));
            idle(SOME, laws -> laws.untell(1, 0, 0));
        });
        factArguments(FollowedLaws::untell);
        says("Returns 1 if it was there, otherwise 0.", () -> {
            FollowedLaws laws = laws("a0x;a01;b11;c00<b11");
            answers(laws, "it was there", l -> l.untell(1, 1, 1), 1);
            answers(laws, "it was there no more", l -> l.untell(1, 1, 1), 0);
            answers(laws, "it was only found", l -> l.untell(2, 0, 0), 0);
            answers(laws, "it was an instance", l -> l.untell(0, 0, 2), 0);
            answers(laws, "it was a stronger one", l -> l.untell(0, 4, 5), 0);
            answers(laws, "it was of another predicate", l -> l.untell(2, 0, 4), 0);
            answers(laws, "it was there, but a stronger one, too", l -> l.untell(0, 0, 1), 1);
            answers(laws, "the last one", l -> l.untell(0, 0, 4), 1);
            answers(laws, "there is none", l -> l.untell(0, 0, 4), 0);
        });
        noFact(FollowedLaws::untell);
    }

    private static void rule() {
        section("Promise 4: rule");
        says("Adds a rule with one part.", () -> {
            FollowedLaws laws = laws("a01;c00<a01");
            laws.rule(fact("bzx"), fact("axy"));
            same("rules", rulesIn(laws), "c00<a01;bzx<axy");
            is("no second part", laws.partOf(1, 2), NONE);
            same("found", foundIn(laws), "a01;bx0;c00");
            laws.rule(fact("bzx"), fact("axy"));
            same("once more the same", rulesIn(laws), "c00<a01;bzx<axy;bzx<axy");
        });
        says("Undoable.", () -> undoable(SOME, laws -> laws.rule(0, 0)));
        says("`head`: the head: 64 times its predicate, 8 times its first term and its second term together", () -> {
            for (int head = 0; head < 256; head++) {
                int number = head;
                FollowedLaws laws = new FollowedLaws();
                answers(laws, "rule of the head " + head, l -> l.rule(number, 0), 0);
                is("head", laws.partOf(0, 0), number);
            }
            same("head", rulesIn(after(new FollowedLaws(), laws -> laws.rule(64 * 3 + 8 * 1 + 7, 0))), "d1w<a00");
        });
        says("`part`: the part, told likewise", () -> {
            for (int part = 0; part < 256; part++) {
                int number = part;
                FollowedLaws laws = new FollowedLaws();
                answers(laws, "rule of the part " + part, l -> l.rule(0, number), 0);
                is("part", laws.partOf(0, 1), number);
            }
            same("part", rulesIn(after(new FollowedLaws(), laws -> laws.rule(0, 64 * 2 + 8 * 6 + 3))), "a00<cz3");
        });
        says("Returns the number of the rule.", () -> {
            FollowedLaws laws = new FollowedLaws();
            for (int number = 0; number < 6; number++) {
                answers(laws, "rule", l -> l.rule(5, 6), number);
            }
            laws.remove(0);
            answers(laws, "rule behind remove", l -> l.rule(7, 8), 5);
            is("its head", laws.partOf(5, 0), 7);
            laws.undo();
            laws.undo();
            laws.undo();
            answers(laws, "rule behind undo", l -> l.rule(9, 9), 5);
        });
        says("Throws `IllegalArgumentException` if head or part is not 0 to 255", () -> {
            taken(SOME.get(), "0", laws -> laws.rule(0, 0));
            taken(SOME.get(), "255", laws -> laws.rule(255, 255));
            for (int wrong : new int[] {-1, 256, LEAST, MOST}) {
                refused(SOME, "the head " + wrong, ARGUMENT, laws -> laws.rule(wrong, 0));
                refused(SOME, "the part " + wrong, ARGUMENT, laws -> laws.rule(0, wrong));
            }
        });
        says("Throws `IllegalStateException` if there are 6 rules", () -> {
            answers(laws(FIVE_RULES), "there are 5", laws -> laws.rule(0, 0), 5);
            refused(() -> laws(FIVE_RULES, "a00<b00"), "there are 6", STATE, laws -> laws.rule(0, 0));
            answers(after(laws(FIVE_RULES, "a00<b00"), laws -> laws.remove(5)), "5 again", laws -> laws.rule(0, 0), 5);
        });
    }

    private static void joining() {
        section("Promise 5: joining");
        says("Adds a rule with two parts.", () -> {
            FollowedLaws laws = laws("a01;b12;d00<a01");
            laws.joining(fact("cxz"), fact("axy"), fact("byz"));
            same("rules", rulesIn(laws), "d00<a01;cxz<axy&byz");
            same("found", foundIn(laws), "a01;b12;c02;d00");
            laws.joining(fact("cxz"), fact("axy"), fact("byz"));
            same("once more the same", rulesIn(laws), "d00<a01;cxz<axy&byz;cxz<axy&byz");
        });
        says("Undoable.", () -> undoable(SOME, laws -> laws.joining(0, 0, 0)));
        says("`head`: the head, told as in rule()", () -> {
            for (int head = 0; head < 256; head++) {
                int number = head;
                FollowedLaws laws = new FollowedLaws();
                answers(laws, "joining of the head " + head, l -> l.joining(number, 1, 2), 0);
                is("head", laws.partOf(0, 0), number);
            }
        });
        says("`one`: the first part", () -> {
            for (int one = 0; one < 256; one++) {
                int number = one;
                FollowedLaws laws = new FollowedLaws();
                answers(laws, "joining of the first part " + one, l -> l.joining(1, number, 2), 0);
                is("first part", laws.partOf(0, 1), number);
            }
        });
        says("`other`: the second part", () -> {
            for (int other = 0; other < 256; other++) {
                int number = other;
                FollowedLaws laws = new FollowedLaws();
                answers(laws, "joining of the second part " + other, l -> l.joining(1, 2, number), 0);
                is("second part", laws.partOf(0, 2), number);
            }
        });
        says("Returns the number of the rule.", () -> {
            FollowedLaws laws = new FollowedLaws();
            for (int number = 0; number < 6; number++) {
                answers(laws, "joining", l -> l.joining(5, 6, 7), number);
            }
            laws.remove(5);
            laws.remove(0);
            answers(laws, "joining behind remove", l -> l.joining(7, 8, 9), 4);
            is("its head", laws.partOf(4, 0), 7);
        });
        says("Throws `IllegalArgumentException` if an argument is not 0 to 255", () -> {
            taken(SOME.get(), "0", laws -> laws.joining(0, 0, 0));
            taken(SOME.get(), "255", laws -> laws.joining(255, 255, 255));
            for (int wrong : new int[] {-1, 256, LEAST, MOST}) {
                refused(SOME, "the head " + wrong, ARGUMENT, laws -> laws.joining(wrong, 0, 0));
                refused(SOME, "the first part " + wrong, ARGUMENT, laws -> laws.joining(0, wrong, 0));
                refused(SOME, "the second part " + wrong, ARGUMENT, laws -> laws.joining(0, 0, wrong));
            }
        });
        says("Throws `IllegalStateException` if there are 6 rules", () -> {
            answers(laws(FIVE_RULES), "there are 5", laws -> laws.joining(0, 0, 0), 5);
            refused(() -> laws(FIVE_RULES, "a00<b00"), "there are 6", STATE, laws -> laws.joining(0, 0, 0));
        });
    }

    private static void remove() {
        section("Promise 6: remove");
        says("Removes a rule.", () -> {
            FollowedLaws laws = laws("a00;b00<a00;c00<a00&a00;d00<c00");
            laws.remove(1);
            same("rules", rulesIn(laws), "b00<a00;d00<c00");
            same("found", foundIn(laws), "a00;b00");
            laws.remove(1);
            laws.remove(0);
            same("none is left", rulesIn(laws), "");
            same("found without rules", foundIn(laws), "a00");
            same("told", toldIn(laws), "a00");
        });
        says("Undoable.", () -> {
            undoable(SOME, laws -> laws.remove(0));
            undoable(SOME, laws -> laws.remove(1));
        });
        says("`rule`: its number", () -> {
            String[] rules = FIVE_RULES.split(";");
            for (int number = 0; number < 5; number++) {
                FollowedLaws laws = laws(FIVE_RULES);
                laws.remove(number);
                List<String> left = new ArrayList<>(List.of(rules));
                left.remove(number);
                same("left behind remove of " + number, rulesIn(laws), String.join(";", left));
            }
        });
        says("Returns how many rules there are then.", () -> {
            FollowedLaws laws = laws(FIVE_RULES, "a00<b00");
            for (int left = 5; left >= 0; left--) {
                answers(laws, "remove", l -> l.remove(0), left);
            }
        });
        says(NO_RULE, () -> {
            Supplier<FollowedLaws> five = () -> laws(FIVE_RULES);
            answers(five.get(), "the first one", laws -> laws.remove(0), 4);
            answers(five.get(), "the last one", laws -> laws.remove(4), 4);
            for (int wrong : new int[] {-1, 5, 6, LEAST, MOST, 1 << 30}) {
                refused(five, "the rule " + wrong, INDEX, laws -> laws.remove(wrong));
            }
            refused(FULL, "the rule 6 of 6", INDEX, laws -> laws.remove(6));
            answers(FULL.get(), "the rule 5 of 6", laws -> laws.remove(5), 5);
            refused(FollowedLaws::new, "the rule 0 of none", INDEX, laws -> laws.remove(0));
            refused(() -> after(laws("a00<b00"), laws -> laws.remove(0)), "one that was removed", INDEX, laws -> laws.remove(0));
        });
    }

    private static void settle() {
        section("Promise 7: settle");
        says("Replaces the told facts by those that are found in the end, if they are 12 at most.", () -> {
            FollowedLaws laws = laws("a01;a0x;b11;c00<b11;bxx<c00");
            laws.settle();
            same("told", toldIn(laws), "a0x;bxx;c00");
            same("rules stay", rulesIn(laws), "c00<b11;bxx<c00");
            is("no rounds any more", laws.count(3), 0);
            is("none dropped", laws.count(5), 0);
            same("found in the round 0", origin(laws, "bxx"), "0 by -1");
            FollowedLaws twelve = laws(ELEVEN, "b00<a00");
            twelve.settle();
            same("12 are told", toldIn(twelve), ELEVEN + ";b00");
            refused(() -> laws(TWELVE, "b00<a00"), "settle with 13 found", STATE, FollowedLaws::settle);
            FollowedLaws few = laws(TWELVE, "axy<a00;b00<a00");
            few.settle();
            same("12 told and 2 found", toldIn(few), "axy;b00");
        });
        says("Undoable.", () -> {
            undoable(SOME, FollowedLaws::settle);
            idle(() -> laws("a00;b00<c00"), FollowedLaws::settle);
            idle(FollowedLaws::new, FollowedLaws::settle);
        });
        says("Returns how many told facts there are then.", () -> {
            answers(new FollowedLaws(), "none", FollowedLaws::settle, 0);
            answers(laws("a00;a0x;axy"), "less", FollowedLaws::settle, 1);
            answers(laws("a00;b00<a00;c00<b00"), "more", FollowedLaws::settle, 3);
            answers(laws(TWELVE), "12", FollowedLaws::settle, 12);
        });
        says("Throws `IllegalStateException` if more are found", () -> {
            answers(laws(TWELVE), "12 told are found", FollowedLaws::settle, 12);
            answers(laws(ELEVEN, "d3w<axy"), "12 are found with a rule", FollowedLaws::settle, 12);
            refused(() -> laws(TWELVE, "d3w<axy"), "13 are found", STATE, FollowedLaws::settle);
            refused(() -> laws(TWELVE, "bxy<axy"), "24 are found", STATE, FollowedLaws::settle);
        });
    }

    // ---- texts

    private static void append() {
        section("Promise 8: append");
        says("Appends a character to the buffer.", () -> {
            FollowedLaws laws = typed("a0");
            laws.append('1');
            holds("buffer", laws.digest() == hash(laws, "a01"));
            laws.read();
            same("told", toldIn(laws), "a01");
            laws.append('c');
            holds("buffer behind read", laws.digest() == hash(laws, "c"));
            is("nothing is saved", typed("a0", "b00").count(7), 1);
            same("and no law changes", state(typed("c00", "b00")), state(laws("b00")));
        });
        says("`code`: the character code, 33 to 126", () -> {
            for (int code = 33; code <= 126; code++) {
                int sign = code;
                FollowedLaws laws = typed("~");
                answers(laws, "append(" + code + ")", l -> l.append(sign), 2);
                holds("the code " + code + " is there", laws.digest() == hash(laws, "~" + (char) sign));
            }
        });
        says("Returns the new length of the buffer.", () -> {
            FollowedLaws laws = new FollowedLaws();
            for (int length = 1; length <= 60; length++) {
                answers(laws, "append", l -> l.append('b'), length);
            }
            laws.clearBuffer();
            answers(laws, "append behind clearBuffer", l -> l.append('b'), 1);
        });
        says("Throws `IllegalArgumentException` if code is not 33 to 126", () -> {
            answers(new FollowedLaws(), "33", laws -> laws.append(33), 1);
            answers(new FollowedLaws(), "126", laws -> laws.append(126), 1);
            for (int wrong : new int[] {32, 127, 31, 128, 0, -1, 10, 97 + 256, 97 + 65536, LEAST, MOST}) {
                refused(SOME, "append(" + wrong + ")", ARGUMENT, laws -> laws.append(wrong));
            }
        });
        says("Throws `IllegalStateException` if the buffer has 60 characters", () -> {
            answers(typed(often(59, "a", "")), "it has 59", laws -> laws.append('a'), 60);
            refused(() -> typed(often(60, "a", "")), "it has 60", STATE, laws -> laws.append('a'));
            FollowedLaws laws = typed(often(60, "a", ""));
            laws.clearBuffer();
            answers(laws, "it has 0", l -> l.append('a'), 1);
        });
    }

    private static void clearBuffer() {
        section("Promise 9: clearBuffer");
        says("Clears the buffer.", () -> {
            FollowedLaws laws = typed("a00;b", "c00");
            laws.clearBuffer();
            holds("buffer", laws.digest() == hash(laws, ""));
            is("no error any more", laws.firstError(), 0);
            refuses(laws, "read", ARGUMENT, FollowedLaws::read);
            is("nothing is saved", laws.count(7), 1);
            same("told", toldIn(laws), "c00");
            type(laws, "d00");
            laws.read();
            same("told then", toldIn(laws), "c00;d00");
        });
        says("Returns the length that it had.", () -> {
            for (int length = 0; length <= 60; length++) {
                FollowedLaws laws = typed(often(length, "x", ""));
                answers(laws, "clearBuffer", FollowedLaws::clearBuffer, length);
                answers(laws, "clearBuffer again", FollowedLaws::clearBuffer, 0);
            }
            FollowedLaws read = laws("a00");
            answers(read, "clearBuffer behind read", FollowedLaws::clearBuffer, 0);
        });
    }

    /** The first error is told, and told again: nothing changes. */
    private static void errs(String text, int index) {
        FollowedLaws laws = typed(text, "b00");
        answers(laws, "firstError of " + text, FollowedLaws::firstError, index);
        answers(laws, "firstError of " + text + ", again", FollowedLaws::firstError, index);
        holds("nothing changes", laws.digest() == hash(laws, text));
        is("nothing is saved", laws.count(7), 1);
    }

    private static void firstError() {
        section("Promise 10: firstError");
        says("Finds the first syntax error of the buffer.", () -> {
            errs("a00;e00;f00", 4);
            errs("a00;b0y;f00", 7);
            errs("!!", 0);
            FollowedLaws laws = typed("a00<b00&c00");
            for (int index = 11; index < 60; index++) {
                answers(laws, "firstError", FollowedLaws::firstError, 11);
                laws.append('&');
            }
        });
        says("Returns the index of the first character that is a syntax error;", () -> {
            String text = "a0y<b1z&cwx;d22";
            for (int index = 0; index < text.length(); index++) {
                String wrong = text.substring(0, index) + "!" + text.substring(index + 1);
                errs(wrong, index);
            }
            String longest = often(15, "a00;", "");
            for (int index = 0; index < 60; index++) {
                String wrong = longest.substring(0, index) + "~" + longest.substring(index + 1);
                errs(wrong, index);
            }
        });
        says("the length of the buffer if there is none.", () -> {
            String text = "a0y<b1z&cwx;d22;axx<a00;bxy;bx0;b0x<czw";
            for (int length = 0; length <= text.length(); length++) {
                String start = text.substring(0, length);
                errs(start, length);
            }
            errs("", 0);
            errs(often(15, "aww<", "b00;").substring(0, 60), 60);
        });
    }

    private static void read() {
        section("Promise 11: read");
        says("Adds the laws in the buffer,", () -> {
            FollowedLaws laws = typed("d3x;cyw<awz;axy;bxx<a00&d33", "b00;c00<b00");
            laws.read();
            same("told", toldIn(laws), "axy;b00;d3x");
            same("rules", rulesIn(laws), "c00<b00;cyw<awz;bxx<a00&d33");
            same("found", foundIn(laws), "axy;bxx;cxy;d3x");
        });
        says("all or none", () -> {
            refused(() -> typed("d00;d01", ELEVEN), "the second fact is too much", STATE, FollowedLaws::read);
            refused(() -> typed("d00<a00;d01", TWELVE), "the fact behind a rule is too much", STATE, FollowedLaws::read);
            refused(() -> typed("d00;a00<b00;a00<b00", FIVE_RULES), "the second rule is too much", STATE, FollowedLaws::read);
            refused(() -> typed("d00;d0", "a00"), "the second law is none", ARGUMENT, FollowedLaws::read);
            refused(() -> typed("d00;d11<a00;e", "a00"), "the third law is none", ARGUMENT, FollowedLaws::read);
        });
        says("(facts that are there already are left out),", () -> {
            FollowedLaws laws = typed("a00;b00;a00;b00", "a00");
            answers(laws, "read", FollowedLaws::read, 4);
            same("told", toldIn(laws), "a00;b00");
            answers(typed("a00;a01;a02", TWELVE), "12 are there, three of them once more", FollowedLaws::read, 3);
            answers(typed("b00;b00;b00", ELEVEN), "11 are there, a 12th thrice", FollowedLaws::read, 3);
            FollowedLaws weaker = typed("a01;b01", "a0x;bxy");
            weaker.read();
            same("weaker ones are not", toldIn(weaker), "a01;a0x;b01;bxy");
            FollowedLaws rules = typed("a00<b00;a00<b00", "a00<b00");
            rules.read();
            is("nor are rules", rules.count(1), 3);
        });
        says("and clears the buffer.", () -> {
            FollowedLaws laws = typed("a00");
            laws.read();
            is("length", laws.clearBuffer(), 0);
            FollowedLaws again = typed("a00", "a00");
            again.read();
            is("length, if nothing was new", again.clearBuffer(), 0);
            type(again, "a0");
            refuses(again, "read", ARGUMENT, FollowedLaws::read);
            is("not if it throws", again.clearBuffer(), 2);
        });
        says("Undoable, as one call.", () -> {
            Supplier<FollowedLaws> three = () -> typed("a00;b00<a00;c0x", "d00");
            undoable(three, FollowedLaws::read);
            FollowedLaws laws = three.get();
            laws.read();
            is("one state for three laws", laws.count(7), 2);
            laws.undo();
            same("undone at once", state(laws), "d00 |  | d00");
            is("the buffer is not there again", laws.clearBuffer(), 0);
            idle(() -> typed("d00", "d00"), FollowedLaws::read);
        });
        says("Returns how many laws the buffer had.", () -> {
            for (int many = 1; many <= 15; many++) {
                answers(typed(often(many, "a00", ";")), "facts", FollowedLaws::read, many);
            }
            for (int many = 1; many <= 6; many++) {
                answers(typed(often(many, "a00<b00", ";")), "rules", FollowedLaws::read, many);
            }
            answers(typed("a00<b00&c00;a00;a01<b00;a01;a00"), "both", FollowedLaws::read, 5);
            answers(typed("a00", "a00"), "one that is there", FollowedLaws::read, 1);
        });
        says("Throws `IllegalArgumentException` if the buffer is not complete laws as a text", () -> {
            String text = "a0x;b1z<cxy&dww;bx2<a00";
            List<Integer> whole = List.of(3, 11, 15, 19, 23);
            for (int length = 0; length <= text.length(); length++) {
                String start = text.substring(0, length);
                if (whole.contains(length)) {
                    taken(typed(start, "d33"), "read of " + start, FollowedLaws::read);
                } else {
                    refused(() -> typed(start, "d33"), "read of " + start, ARGUMENT, FollowedLaws::read);
                }
            }
            for (String wrong : new String[] {"a00;", "e00", "a0y", "ayx", "az0", "a00~", "a00;b00;c0z", "a00<b00<c00"}) {
                refused(() -> typed(wrong, "d33"), "read of " + wrong, ARGUMENT, FollowedLaws::read);
            }
        });
        says("Throws `IllegalStateException` if there would be more than 12 told facts, or more than 6 rules", () -> {
            answers(typed("d00", ELEVEN), "12 facts", FollowedLaws::read, 1);
            refused(() -> typed("d00", TWELVE), "13 facts", STATE, FollowedLaws::read);
            answers(typed(TWELVE), "12 facts at once", FollowedLaws::read, 12);
            refused(() -> typed(TWELVE + ";a30"), "13 facts at once", STATE, FollowedLaws::read);
            refused(() -> typed(TWELVE + ";axy"), "13 facts, though one is found", STATE, FollowedLaws::read);
            answers(typed("d00<a00", FIVE_RULES), "6 rules", FollowedLaws::read, 1);
            refused(() -> typed("d00<a00", FIVE_RULES, "d00<a00"), "7 rules", STATE, FollowedLaws::read);
            answers(typed(often(6, "d00<a00", ";")), "6 rules at once", FollowedLaws::read, 6);
            refused(() -> typed(often(7, "d00<a00", ";")), "7 rules at once", STATE, FollowedLaws::read);
            answers(typed("d00;d00<a00", ELEVEN, FIVE_RULES), "12 facts and 6 rules", FollowedLaws::read, 2);
            refused(() -> typed("d00;d00<a00", TWELVE, FIVE_RULES), "13 facts and 6 rules", STATE, FollowedLaws::read);
            refused(() -> typed("d00<a00;d00;d00<a00", ELEVEN, FIVE_RULES), "12 facts and 7 rules", STATE, FollowedLaws::read);
        });
    }

    private static void undoOne() {
        section("Promise 12: undo");
        says("Restores the latest saved state, and drops it.", () -> {
            FollowedLaws laws = new FollowedLaws();
            List<String> states = new ArrayList<>();
            Call[] calls = {l -> l.tell(0, 0, 4), l -> l.tell(0, 0, 1), l -> l.rule(fact("bxy"), fact("a0z")),
                l -> l.joining(fact("c11"), fact("bxy"), fact("axy")), l -> l.remove(0), l -> l.untell(0, 0, 1)};
            for (Call call : calls) {
                states.add(state(laws));
                call.on(laws);
            }
            Collections.reverse(states);
            for (String state : states) {
                laws.undo();
                same("undone", state(laws), state);
            }
            FollowedLaws again = laws("a00");
            again.tell(0, 0, 1);
            again.undo();
            again.tell(0, 0, 2);
            again.undo();
            same("the one from before the latest call", toldIn(again), "a00");
            again.undo();
            same("a dropped state is not restored", toldIn(again), "");
            FollowedLaws text = typed("b0", "a00");
            text.undo();
            holds("the buffer stays", text.digest() == hash(text, "b0"));
        });
        says("Returns how many saved states are left.", () -> {
            FollowedLaws laws = new FollowedLaws();
            for (int k = 0; k < 9; k++) {
                laws.tell(0, 0, 0);
            }
            for (int left = 5; left >= 0; left--) {
                answers(laws, "undo", FollowedLaws::undo, left);
                is("count(7)", laws.count(7), left);
            }
            laws.tell(0, 0, 0);
            laws.tell(0, 0, 1);
            answers(laws, "undo of one of two", FollowedLaws::undo, 1);
        });
        says("Throws `IllegalStateException` if there is none", () -> {
            refused(FollowedLaws::new, "undo of a new object", STATE, FollowedLaws::undo);
            refused(() -> typed("a00"), "undo behind append", STATE, FollowedLaws::undo);
            refused(() -> after(laws("a00"), FollowedLaws::undo), "undo of none left", STATE, FollowedLaws::undo);
            answers(laws("a00"), "undo of one", FollowedLaws::undo, 0);
            FollowedLaws six = FULL.get();
            for (int k = 0; k < 6; k++) {
                six.undo();
            }
            refuses(six, "the 7th undo", STATE, FollowedLaws::undo);
        });
    }

    // ---- looks

    private static void told() {
        section("Promise 13: told");
        says("Returns a told fact.", () -> {
            FollowedLaws laws = laws("a0x;a01;c00<a01");
            is("also one than which another one is stronger", laws.told(0), fact("a01"));
            is("the other one", laws.told(1), fact("a0x"));
            is("but none that is only found", laws.told(2), NONE);
            FollowedLaws looked = SOME.get();
            looked.told(0);
            same("nothing changes", story(looked), story(SOME.get()));
        });
        says("`place`: its place in the order of the told facts, from 0", () -> {
            FollowedLaws laws = laws("d00;c11;bxy;a0x;a00");
            int[] want = {fact("a00"), fact("a0x"), fact("bxy"), fact("c11"), fact("d00")};
            for (int place = 0; place < want.length; place++) {
                is("told(" + place + ")", laws.told(place), want[place]);
            }
        });
        says("Returns 64 times its predicate, 8 times its first term and its second term together;", () -> {
            for (int predicate = 0; predicate < 4; predicate++) {
                for (int pair : PAIRS) {
                    FollowedLaws laws = laws(Model.text(64 * predicate + pair));
                    is("told", laws.told(0), 64 * predicate + pair);
                }
            }
        });
        says("NONE if there are not so many.", () -> {
            for (int many = 0; many <= 12; many++) {
                FollowedLaws laws = many == 0 ? new FollowedLaws() : laws(TWELVE.substring(0, 4 * many - 1));
                for (int place = 0; place < 14; place++) {
                    is("told(" + place + ") of " + many, laws.told(place), place < many ? 8 * (place / 4) + place % 4 : NONE);
                }
                is("told of much", laws.told(MOST), NONE);
            }
        });
        says("Throws `IllegalArgumentException` if place is below 0", () -> {
            taken(new FollowedLaws(), "told(0)", laws -> laws.told(0));
            refused(SOME, "told(-1)", ARGUMENT, laws -> laws.told(-1));
            refused(SOME, "told of little", ARGUMENT, laws -> laws.told(LEAST));
            refused(FollowedLaws::new, "told(-1) of none", ARGUMENT, laws -> laws.told(-1));
        });
    }

    private static void partOf() {
        section("Promise 14: partOf");
        says("Returns a part of a rule.", () -> {
            FollowedLaws laws = laws("czw<a0z&bww;c2x<b11");
            is("partOf", laws.partOf(0, 1), fact("a0z"));
            FollowedLaws looked = SOME.get();
            looked.partOf(0, 0);
            same("nothing changes", story(looked), story(SOME.get()));
        });
        says("`rule`: its number", () -> {
            FollowedLaws laws = laws(FIVE_RULES, "dww<axz");
            String[] rules = (FIVE_RULES + ";dww<axz").split(";");
            for (int rule = 0; rule < 6; rule++) {
                is("head", laws.partOf(rule, 0), fact(rules[rule].substring(0, 3)));
                is("first part", laws.partOf(rule, 1), fact(rules[rule].substring(4, 7)));
            }
        });
        says("`part`: 0: the head; 1, 2: the first, the second part of its body", () -> {
            FollowedLaws laws = laws("d3w<cz2&b1x");
            is("head", laws.partOf(0, 0), fact("d3w"));
            is("first part", laws.partOf(0, 1), fact("cz2"));
            is("second part", laws.partOf(0, 2), fact("b1x"));
        });
        says("Returns the part, told as in rule();", () -> {
            for (int atom = 0; atom < 256; atom++) {
                FollowedLaws laws = new FollowedLaws();
                laws.rule(atom, atom);
                laws.joining(atom, atom, atom);
                for (int part = 0; part < 3; part++) {
                    is("partOf(0, " + part + ")", laws.partOf(0, part), part == 2 ? NONE : atom);
                    is("partOf(1, " + part + ")", laws.partOf(1, part), atom);
                }
            }
        });
        says("NONE for 2, if it has one part.", () -> {
            FollowedLaws laws = laws("a00<b00;a00<b00&a00;a00<b00");
            is("one part", laws.partOf(0, 2), NONE);
            is("two parts", laws.partOf(1, 2), 0);
            is("one part again", laws.partOf(2, 2), NONE);
            laws.remove(1);
            is("behind remove", laws.partOf(1, 2), NONE);
            laws.undo();
            is("behind undo", laws.partOf(1, 2), 0);
        });
        says(NO_RULE, () -> {
            Supplier<FollowedLaws> five = () -> laws(FIVE_RULES);
            for (int part = 0; part <= 2; part++) {
                int p = part;
                taken(five.get(), "the first one", laws -> laws.partOf(0, p));
                taken(five.get(), "the last one", laws -> laws.partOf(4, p));
                for (int wrong : new int[] {-1, 5, 6, LEAST, MOST, 1 << 30, 0x55555555, 0xaaaaaaab}) {
                    refused(five, "the rule " + wrong, INDEX, laws -> laws.partOf(wrong, p));
                }
                refused(FollowedLaws::new, "the rule 0 of none", INDEX, laws -> laws.partOf(0, p));
                refused(FULL, "the rule 6 of 6", INDEX, laws -> laws.partOf(6, p));
                taken(FULL.get(), "the rule 5 of 6", laws -> laws.partOf(5, p));
            }
            refused(() -> after(laws("a00<b00;c00<d00"), laws -> laws.remove(0)), "behind remove", INDEX, laws -> laws.partOf(1, 0));
        });
        says("Throws `IllegalArgumentException` if part is not 0 to 2", () -> {
            taken(SOME.get(), "the part 0", laws -> laws.partOf(1, 0));
            taken(SOME.get(), "the part 2", laws -> laws.partOf(1, 2));
            for (int wrong : new int[] {-1, 3, 4, LEAST, MOST}) {
                refused(SOME, "the part " + wrong, ARGUMENT, laws -> laws.partOf(0, wrong));
                refused(SOME, "the part " + wrong + " of one", ARGUMENT, laws -> laws.partOf(1, wrong));
            }
        });
    }

    private static void found() {
        section("Promise 15: found");
        says("Returns a fact that is found at the end.", () -> {
            FollowedLaws laws = laws("a0x;a01;b11;c00<a01;cxx<b11;b1x<c00");
            same("found", foundIn(laws), "a0x;b1x;cxx");
            FollowedLaws looked = SOME.get();
            looked.found(0, 0);
            same("nothing changes", story(looked), story(SOME.get()));
        });
        says("`place`: its place in their order, from 0", () -> {
            FollowedLaws laws = laws("a33;d00<a33;b2x<a33;bx2<a33;a01<a33;c11<a33;b21<a33");
            int[] want = {fact("a01"), fact("a33"), fact("b2x"), fact("bx2"), fact("c11"), fact("d00")};
            for (int place = 0; place < want.length; place++) {
                is("found(" + place + ", 0)", laws.found(place, 0), want[place]);
            }
        });
        says("`what`: 0: the fact, told as in told();", () -> {
            for (int pair : PAIRS) {
                FollowedLaws laws = laws(Model.text(pair), "d" + Model.text(pair).substring(1) + "<azw");
                is("told", laws.found(0, 0), pair);
            }
            for (int pair : PAIRS) {
                String terms = Model.text(pair).substring(1);
                is("by a rule", laws("a00;d" + terms + "<a00").found(1, 0), 192 + pair);
            }
        });
        says("1: the round in which it was found;", () -> {
            FollowedLaws laws = laws("a00;b00<a00;c00<b00;d00<c00;d11<d00;d22<d11;d33<d22");
            String[] facts = {"a00", "b00", "c00", "d00", "d11", "d22", "d33"};
            for (int round = 0; round < facts.length; round++) {
                is("round of " + facts[round], laws.found(round, 1), round);
            }
            same("the first one of two", origin(laws("a00;c00<b00;b00<a00;c00<a00"), "c00"), "1 by 2");
        });
        says("2: the rule by which, NONE in the round 0;", () -> {
            FollowedLaws laws = laws("a00;c00;d11<b00;d00<a00;d00<a00;b00<a00;b00<a00;c00<a00");
            same("told", origin(laws, "a00"), "0 by " + NONE);
            same("told, though a rule finds it", origin(laws, "c00"), "0 by " + NONE);
            same("the lowest one", origin(laws, "d00"), "1 by 1");
            same("the lowest one", origin(laws, "b00"), "1 by 3");
            same("the lowest one of all", origin(laws, "d11"), "2 by 0");
            same("the highest one", origin(laws(FIVE_RULES + ";a00", "dxx<a00"), "dxx"), "1 by 5");
        });
        says("3: its instances", () -> {
            is("two constants", laws("c31").found(0, 3), 1);
            is("a constant and x", laws("c3x").found(0, 3), 4);
            is("x and a constant", laws("cx1").found(0, 3), 4);
            is("x and x", laws("cxx").found(0, 3), 4);
            is("x and y", laws("cxy").found(0, 3), 16);
            is("also those of others, too", laws("c3x;cx1").found(1, 3), 4);
        });
        says("Returns the number; NONE if there are not so many.", () -> {
            FollowedLaws laws = laws("a0x;a01;b11<a01");
            for (int what = 0; what <= 3; what++) {
                holds("the last one", laws.found(1, what) > NONE || what == 2);
                is("one more", laws.found(2, what), NONE);
                is("of much", laws.found(MOST, what), NONE);
                is("of none", new FollowedLaws().found(0, what), NONE);
            }
            is("the rule of the last one", laws.found(1, 2), 0);
            FollowedLaws many = laws(TWELVE, "bxy<axy");
            is("found", many.count(2), 24);
            is("the 24th", many.found(23, 0), fact("b23"));
            is("the 25th", many.found(24, 0), NONE);
        });
        says("Throws `IllegalArgumentException` if place is below 0, or what is not 0 to 3", () -> {
            for (int what = 0; what <= 3; what++) {
                int w = what;
                taken(SOME.get(), "found(0, " + w + ")", laws -> laws.found(0, w));
                refused(SOME, "found(-1, " + w + ")", ARGUMENT, laws -> laws.found(-1, w));
                refused(SOME, "found of little", ARGUMENT, laws -> laws.found(LEAST, w));
            }
            for (int wrong : new int[] {-1, 4, 5, LEAST, MOST}) {
                refused(SOME, "found(0, " + wrong + ")", ARGUMENT, laws -> laws.found(0, wrong));
                refused(SOME, "found(99, " + wrong + ")", ARGUMENT, laws -> laws.found(99, wrong));
                refused(FollowedLaws::new, "found(0, " + wrong + ") of none", ARGUMENT, laws -> laws.found(0, wrong));
            }
        });
    }

    private static void count() {
        section("Promise 16: count");
        says("Returns a number.", () -> {
            FollowedLaws laws = SOME.get();
            int[] want = {3, 2, 4, 1, 4, 1, 12, 2};
            for (int what = 0; what <= 7; what++) {
                is("count(" + what + ")", laws.count(what), want[what]);
            }
            same("nothing changes", story(laws), story(SOME.get()));
        });
        says("`what`: 0: told facts;", () -> {
            is("none", laws("a00<b00").count(0), 0);
            is("those that are dropped, too", laws("a0x;a01;b00<a01").count(0), 2);
            is("12", laws(TWELVE).count(0), 12);
        });
        says("1: rules;", () -> {
            is("none", laws("a00").count(1), 0);
            is("5", laws(FIVE_RULES).count(1), 5);
            is("6", laws(FIVE_RULES, "a00<b00").count(1), 6);
        });
        says("2: facts that are found at the end;", () -> {
            is("none", laws("a00<b00").count(2), 0);
            is("without those that are dropped", laws("a0x;a01;b00<a01").count(2), 2);
            is("more than 12", laws(TWELVE, "bxy<axy;cyx<axy").count(2), 36);
        });
        says("3: rounds;", () -> {
            is("none", laws("a00;b00<c00").count(3), 0);
            is("one", laws("a00;b00<a00").count(3), 1);
            is("six", laws("a00;b00<a00;c00<b00;d00<c00;d11<d00;d22<d11;d33<d22").count(3), 6);
            is("many by one rule", laws("a01;a12;a23;a30;b00;b1x<a01", "bzw<byw&ayz").count(3), 4);
        });
        says("4: matches in all these rounds, and in the one that finds nothing new;", () -> {
            is("no rule", laws("a00").count(4), 0);
            is("no match", laws("a00;b00<a11").count(4), 0);
            is("one, of the round that finds nothing", laws("a00;a00<a00").count(4), 1);
            is("one of a round, and that once more", laws("a00;b00<a00").count(4), 2);
            is("of two rounds and the last one", laws("a00;b00<a00;b11<b00").count(4), 1 + 2 + 2);
            is("of results that are the same", laws("a00;a11;b00<axy;b00<axx").count(4), 4 + 4);
            is("of two parts", laws("a00;a11;b00<axy&azw").count(4), 4 + 4);
        });
        says("5: facts that were dropped in the rounds, and of the told ones at first;", () -> {
            is("none", laws("a00;b00<a00").count(5), 0);
            is("of the told ones", laws("a00;a01;a0x;b00;bxx").count(5), 3);
            is("a told one in a round", laws("a00;b11;bxx<a00").count(5), 1);
            is("a new one in its round", laws("a00;b11<a00;bxx<a00").count(5), 1);
            is("one of a round before", laws("a00;b11<a00;bxx<b11").count(5), 1);
            is("in two rounds", laws("a00;b11;b1x<b11;bxy<b1x").count(5), 2);
            is("those that are not new are not found", laws("a00;bxx;b11<a00").count(5), 0);
            is("all of it", laws("a00;a0x;b11;bxx<a0x;b12<a0x;bxy<b12").count(5), 1 + 1 + 2);
        });
        says("6: instances of the facts that are found at the end, each once, of the 64 facts of constants;", () -> {
            is("none", laws("a00<b00").count(6), 0);
            is("one", laws("a00").count(6), 1);
            is("each once", laws("a0x;ax0;axx").count(6), 4 + 3 + 3);
            is("of each predicate", laws("a0x;b0x;c00;d1x").count(6), 13);
            is("those of the dropped ones are there", laws("a00;a0x").count(6), 4);
            is("of found ones", laws("a00;bxx<a00").count(6), 5);
            is("63", laws("axy;bxy;cxy;d0x;d1x;d2x;d30;d31;d32").count(6), 63);
            is("64", laws("axy;bxy;cxy;dxy").count(6), 64);
        });
        says("7: saved states", () -> {
            FollowedLaws laws = new FollowedLaws();
            for (int k = 0; k < 9; k++) {
                is("saved", laws.count(7), Math.min(k, 6));
                laws.settle();
            }
            laws.undo();
            is("behind undo", laws.count(7), 5);
        });
        says("Returns the number.", () -> {
            FollowedLaws laws = FULL.get();
            int[] want = {12, 6, 13, 1, 2, 0, 13, 6};
            for (int what = 0; what <= 7; what++) {
                is("count(" + what + ")", laws.count(what), want[what]);
            }
        });
        says("Throws `IllegalArgumentException` if what is not 0 to 7", () -> {
            taken(SOME.get(), "count(0)", laws -> laws.count(0));
            taken(SOME.get(), "count(7)", laws -> laws.count(7));
            for (int wrong : new int[] {-1, 8, 9, LEAST, MOST}) {
                refused(SOME, "count(" + wrong + ")", ARGUMENT, laws -> laws.count(wrong));
            }
        });
    }

    private static void follows() {
        section("Promise 17: follows");
        says("Tells whether a fact follows.", () -> {
            FollowedLaws laws = SOME.get();
            is("it does", laws.follows(0, 0, 0), 1);
            is("it does not", laws.follows(0, 1, 0), 0);
            same("nothing changes", story(laws), story(SOME.get()));
        });
        factArguments(FollowedLaws::follows);
        says("Returns 2 if it is found at the end;", () -> {
            for (int pair : PAIRS) {
                is("told", laws(Model.text(64 + pair)).follows(1, pair / 8, pair % 8), 2);
                String terms = Model.text(pair).substring(1);
                is("by a rule", laws("a00;d" + terms + "<a00").follows(3, pair / 8, pair % 8), 2);
            }
            is("not in the end", laws("a00;b11;b1x<a00").follows(1, 1, 1), 1);
        });
        says("1 if a fact that is found is stronger;", () -> {
            FollowedLaws laws = laws("a1x;ax2;bxx;cxy");
            is("of a constant and x", laws.follows(0, 1, 3), 1);
            is("of x and a constant", laws.follows(0, 3, 2), 1);
            is("of both", laws.follows(0, 1, 2), 1);
            is("of x and x", laws.follows(1, 3, 3), 1);
            is("of x and y, two constants", laws.follows(2, 3, 1), 1);
            is("of x and y, a constant and x", laws.follows(2, 3, 4), 1);
            is("of x and y, x and a constant", laws.follows(2, 4, 3), 1);
            is("of x and y, x and x", laws.follows(2, 4, 4), 1);
            is("told, and dropped", laws("a11;axx").follows(0, 1, 1), 1);
        });
        says("otherwise 0.", () -> {
            FollowedLaws laws = laws("a1x;ax2;bxx;c00;c01;c02;c03");
            is("beside both", laws.follows(0, 2, 1), 0);
            is("weaker ones are found", laws.follows(0, 4, 5), 0);
            is("others with x are", laws.follows(0, 2, 4), 0);
            is("beside x and x", laws.follows(1, 0, 1), 0);
            is("a row of x and x", laws.follows(1, 0, 4), 0);
            is("all instances are", laws.follows(2, 0, 4), 0);
            is("another predicate", laws.follows(3, 1, 4), 0);
            is("nothing is", new FollowedLaws().follows(0, 4, 5), 0);
        });
        noFact(FollowedLaws::follows);
    }

    private static void instances() {
        section("Promise 18: instances");
        says("Asks for instances.", () -> {
            FollowedLaws laws = SOME.get();
            is("instances", laws.instances(0, 4, 5), 15);
            same("nothing changes", story(laws), story(SOME.get()));
        });
        factArguments(FollowedLaws::instances);
        says("Returns which instances of this fact follow, as a mask with the bit 4 * f + s for the constants f and s.", () -> {
            for (int f = 0; f < 4; f++) {
                for (int s = 0; s < 4; s++) {
                    FollowedLaws laws = laws("b" + f + s, "c" + f + s + "<bxy");
                    int bit = 1 << (4 * f + s);
                    for (int pair : PAIRS) {
                        int first = pair / 8;
                        int second = pair % 8;
                        boolean has = (first == 4 || first == f) && (second >= 4 || second == s) && (pair != 36 || f == s);
                        is("of " + Model.text(64 + pair), laws.instances(1, first, second), has ? bit : 0);
                        is("by a rule", laws.instances(2, first, second), has ? bit : 0);
                        is("of another predicate", laws.instances(0, first, second), 0);
                    }
                }
            }
            is("none", new FollowedLaws().instances(0, 4, 5), 0);
            is("all", laws("dxy").instances(3, 4, 5), 0xffff);
            is("of two facts", laws("d0x;dx3").instances(3, 4, 5), 0x888f);
            is("a column of two facts", laws("d0x;dx3").instances(3, 4, 3), 0x8888);
            is("a row of two facts", laws("d0x;dx3").instances(3, 2, 4), 0x0800);
            is("x and x of two facts", laws("d0x;dx3").instances(3, 4, 4), 0x8001);
        });
        noFact(FollowedLaws::instances);
    }

    private static void behind() {
        section("Promise 19: behind");
        says("Returns the facts of a round.", () -> {
            FollowedLaws laws = SOME.get();
            is("behind(0)", laws.behind(0), 2);
            is("behind(1)", laws.behind(1), 4);
            same("nothing changes", story(laws), story(SOME.get()));
        });
        says("`round`: 0 or more", () -> {
            taken(SOME.get(), "behind(0)", laws -> laws.behind(0));
            taken(SOME.get(), "behind(103)", laws -> laws.behind(103));
            taken(SOME.get(), "behind(104)", laws -> laws.behind(104));
            taken(SOME.get(), "behind(105)", laws -> laws.behind(105));
            taken(SOME.get(), "behind of much", laws -> laws.behind(MOST));
            for (int bit = 2; bit < 31; bit++) {
                int round = 1 << bit;
                answers(SOME.get(), "behind(" + round + ")", laws -> laws.behind(round), 4);
                answers(SOME.get(), "behind(" + (round - 1) + ")", laws -> laws.behind(round - 1), 4);
            }
        });
        says("Returns how many facts are found behind this round", () -> {
            FollowedLaws laws = laws("a00;a0x;b11;b12;b1x<a00;c00<b12;c11<b12;cxx<c00");
            int[] want = {3, 4, 3};
            for (int round = 0; round < want.length; round++) {
                is("behind(" + round + ")", laws.behind(round), want[round]);
            }
        });
        says("(behind the last one, if there are not so many).", () -> {
            FollowedLaws laws = laws("a00;b00<a00;c00<b00");
            is("the last one", laws.behind(2), 3);
            is("the one that does not count", laws.behind(3), 3);
            is("and more", laws.behind(4), 3);
            is("of much", laws.behind(MOST), 3);
            is("no rounds", laws("a00;a01").behind(1), 2);
            is("none found", new FollowedLaws().behind(7), 0);
            FollowedLaws shorter = laws("a00;b00<a00;c00<b00");
            shorter.remove(1);
            is("rounds of before do not stay", shorter.behind(2), 2);
        });
        says("Throws `IllegalArgumentException` if round is below 0", () -> {
            taken(new FollowedLaws(), "behind(0)", laws -> laws.behind(0));
            refused(SOME, "behind(-1)", ARGUMENT, laws -> laws.behind(-1));
            refused(SOME, "behind of little", ARGUMENT, laws -> laws.behind(LEAST));
            refused(FollowedLaws::new, "behind(-1) of none", ARGUMENT, laws -> laws.behind(-1));
        });
    }

    // ---- what would be

    private static void without() {
        section("Promise 20: without");
        String text = "a00;b00<a00;cxy<b00;c00<a00;b00<c00";
        says("Tells what would be without a rule.", () -> {
            FollowedLaws laws = laws(text);
            for (int rule = 0; rule < 4; rule++) {
                FollowedLaws less = laws(text);
                less.remove(rule);
                is("found", laws.without(rule, 0), less.count(2));
                is("rounds", laws.without(rule, 1), less.count(3));
                is("less", laws.without(rule, 2), laws.count(6) - less.count(6));
            }
            same("nothing changes", story(laws), story(laws(text)));
        });
        says("`rule`: its number", () -> {
            FollowedLaws laws = laws("a00;b00<a00;c00<b00;d00<c00;d11<d00;d22<d11;d33<d22");
            for (int rule = 0; rule < 6; rule++) {
                is("without(" + rule + ", 0)", laws.without(rule, 0), rule + 1);
                is("without(" + rule + ", 1)", laws.without(rule, 1), rule);
                is("without(" + rule + ", 2)", laws.without(rule, 2), 6 - rule);
            }
        });
        says("`what`: 0: facts that are found at the end;", () -> {
            FollowedLaws laws = laws("a00;b00<a00;b11<a00;bxx<b11");
            is("without the first one", laws.without(0, 0), 2);
            is("without the second one", laws.without(1, 0), 2);
            is("without the third one: more", laws.without(2, 0), 3);
            is("told ones stay", laws("a00;a00<a00").without(0, 0), 1);
            is("none", laws("a00<b00").without(0, 0), 0);
        });
        says("1: rounds;", () -> {
            FollowedLaws laws = laws("a00;d00<a00;b00<a00;c00<b00;d00<c00");
            is("without the first one: more", laws.without(0, 1), 3);
            is("now", laws.count(3), 2);
            is("without the second one", laws.without(1, 1), 1);
            is("without the third one", laws.without(2, 1), 1);
            is("without the last one", laws.without(3, 1), 2);
            is("none", laws("a00;b00<a00").without(0, 1), 0);
        });
        says("2: by how much count(6) would be less", () -> {
            FollowedLaws laws = laws("a00;b0x<a00;bx0<a00;bx0<a00;cxy<bx0;d00<c11");
            int[] less = {3, 0, 0, 17, 1};
            for (int rule = 0; rule < 5; rule++) {
                is("without(" + rule + ", 2)", laws.without(rule, 2), less[rule]);
            }
            is("all but the told one", laws("a00;bxy<a00").without(0, 2), 16);
            is("nothing", laws("a00;b00<c00").without(0, 2), 0);
        });
        says("Returns the number.", () -> {
            FollowedLaws laws = laws("a00;bxy<a00&a00;c00<bxy");
            int[] want = {1, 0, 17, 2, 1, 1};
            for (int k = 0; k < 6; k++) {
                is("without(" + k / 3 + ", " + k % 3 + ")", laws.without(k / 3, k % 3), want[k]);
            }
        });
        says(NO_RULE, () -> {
            for (int what = 0; what <= 2; what++) {
                int w = what;
                taken(SOME.get(), "the first one", laws -> laws.without(0, w));
                taken(SOME.get(), "the last one", laws -> laws.without(1, w));
                for (int wrong : new int[] {-1, 2, 6, LEAST, MOST, 1 << 30, 0x55555555}) {
                    refused(SOME, "the rule " + wrong, INDEX, laws -> laws.without(wrong, w));
                }
                refused(FollowedLaws::new, "the rule 0 of none", INDEX, laws -> laws.without(0, w));
                taken(FULL.get(), "the rule 5 of 6", laws -> laws.without(5, w));
                refused(FULL, "the rule 6 of 6", INDEX, laws -> laws.without(6, w));
            }
        });
        says("Throws `IllegalArgumentException` if what is not 0 to 2", () -> {
            taken(SOME.get(), "0", laws -> laws.without(0, 0));
            taken(SOME.get(), "2", laws -> laws.without(0, 2));
            for (int wrong : new int[] {-1, 3, 4, LEAST, MOST}) {
                refused(SOME, "without(0, " + wrong + ")", ARGUMENT, laws -> laws.without(0, wrong));
            }
        });
    }

    private static void spare() {
        section("Promise 21: spare");
        says("Tells whether a told fact is spare.", () -> {
            FollowedLaws laws = laws("a01;a0x;b00;b00<a01");
            is("a weaker one", laws.spare(0), 1);
            is("a stronger one", laws.spare(1), 0);
            is("one that a rule finds", laws.spare(2), 1);
            same("nothing changes", story(laws), story(laws("a01;a0x;b00;b00<a01")));
        });
        says("`place`: its place in the order of the told facts, from 0", () -> {
            FollowedLaws laws = laws("d00;c0x;c01;b11;a3x;a33;a30");
            int[] want = {1, 1, 0, 0, 1, 0, 0};
            for (int place = 0; place < want.length; place++) {
                is("spare(" + place + ")", laws.spare(place), want[place]);
            }
            FollowedLaws twelve = laws(TWELVE, "a23<a00");
            is("the 12th", twelve.spare(11), 1);
            is("the 11th", twelve.spare(10), 0);
        });
        says("Returns 1 if it would follow without being told, otherwise 0;", () -> {
            is("by a stronger one that is told", laws("a00;axx").spare(0), 1);
            is("by one that a rule finds", laws("a11;b00;bxx<a11").spare(1), 1);
            is("by a rule itself", laws("a11;b00;b00<a11").spare(1), 1);
            is("by no rule without it", laws("a00;a00<a00").spare(0), 0);
            is("by a round about itself", laws("a00;b00<a00;a00<b00").spare(0), 0);
            is("two that find one another", laws("a00;b00;b00<a00;a00<b00").spare(0), 1);
            is("the other one of them", laws("a00;b00;b00<a00;a00<b00").spare(1), 1);
            is("by weaker ones", laws("a00;a01;a02;a03;a0x").spare(4), 0);
            is("alone", laws("axy").spare(0), 0);
            is("a stronger one that a weaker one finds", laws("a01;a0x;a0x<a01").spare(1), 1);
            is("a weaker one that a stronger one follows from", laws("a01;a0x;a0x<a01").spare(0), 1);
            is("by what it finds itself", laws("a01;a0x<a01").spare(0), 0);
            is("by what a rule finds that it is not needed for", laws("a01;b00;a0x<b00").spare(0), 1);
        });
        says("NONE if there are not so many.", () -> {
            is("of none", new FollowedLaws().spare(0), NONE);
            is("one more", laws("a00;b00").spare(2), NONE);
            is("the last one", laws("a00;b00").spare(1), 0);
            is("more are found", laws("a00;b00<a00").spare(1), NONE);
            is("12", laws(TWELVE).spare(11), 0);
            is("a 13th", laws(TWELVE).spare(12), NONE);
            is("of much", laws(TWELVE).spare(MOST), NONE);
        });
        says("Throws `IllegalArgumentException` if place is below 0", () -> {
            taken(new FollowedLaws(), "spare(0)", laws -> laws.spare(0));
            refused(SOME, "spare(-1)", ARGUMENT, laws -> laws.spare(-1));
            refused(SOME, "spare of little", ARGUMENT, laws -> laws.spare(LEAST));
            refused(FollowedLaws::new, "spare(-1) of none", ARGUMENT, laws -> laws.spare(-1));
        });
    }

    private static void richest() {
        section("Promise 22: richest");
        says("Finds a fact that would bring most.", () -> {
            FollowedLaws laws = laws("a00;b0x<a11;bxy<a23;cxx<a31");
            is("richest(0)", laws.richest(0), 8 * 2 + 3);
            same("nothing changes", story(laws), story(laws("a00;b0x<a11;bxy<a23;cxx<a31")));
        });
        says("`predicate`: 0 to 3", () -> {
            FollowedLaws laws = laws("a11;dxy<a01;dxx<b12;d0x<c23;d3x<d30;a11<a11");
            int[] want = {1, 10, 19, 24};
            for (int predicate = 0; predicate < 4; predicate++) {
                is("richest(" + predicate + ")", laws.richest(predicate), want[predicate]);
            }
        });
        says("Returns of the 16 facts of constants of this predicate the one with which, if it was told besides", () -> {
            for (int f = 0; f < 4; f++) {
                for (int s = 0; s < 4; s++) {
                    is("richest", laws("c" + f + s + "<b" + f + s).richest(1), 8 * f + s);
                    is("richest of another predicate", laws("c" + f + s + "<b" + f + s).richest(3), 0);
                }
            }
            FollowedLaws laws = laws("a00;a01;dxy<a22&a00;cxy<a00");
            is("besides: with those that are told", laws.richest(0), 18);
            is("those that are told stay told", laws("a00;a01;a02;a03;a1x;a2x;a30;a31;a32").richest(0), 27);
        });
        says("(also if there are 12), count(6) would be greatest,", () -> {
            FollowedLaws full = laws(TWELVE, "cxy<b31&axy");
            is("12 are there", full.count(0), 12);
            is("richest with 12", full.richest(1), 25);
            is("12 stay", full.count(0), 12);
            is("more are found, but less instances", laws("b00<a10;b11<a10;b22<a10;b3x<a20").richest(0), 16);
            is("instances that are there count not", laws("b3x;b3x<a20;b00<a30").richest(0), 24);
        });
        says("of several the first one in their order,", () -> {
            is("all bring one", new FollowedLaws().richest(0), 0);
            is("all bring nothing", laws("axy").richest(0), 0);
            is("nor those that are told", laws("a00;a01;axy").richest(0), 0);
            is("all bring one, but those that are told", laws("a00;a01").richest(0), 2);
            is("all but the first row", laws("a0x").richest(0), 8);
            is("all but the first column", laws("ax0").richest(0), 1);
            is("two of all", laws("b00<a12;b00<a21;b11<a30").richest(0), 10);
            is("a later one that brings more", laws("b00<a12;b00<a21;b1x<a30").richest(0), 24);
            is("the last one alone", laws("a0x;a1x;a2x;a30;a31;a32").richest(0), 27);
        });
        says("as 8 times its first term and its second term together.", () -> {
            for (int f = 0; f < 4; f++) {
                for (int s = 0; s < 4; s++) {
                    is("richest", laws("dxy<c" + f + s).richest(2), 8 * f + s);
                }
            }
        });
        says("Throws `IllegalArgumentException` if predicate is out of range", () -> {
            taken(SOME.get(), "richest(0)", laws -> laws.richest(0));
            taken(SOME.get(), "richest(3)", laws -> laws.richest(3));
            for (int wrong : new int[] {-1, 4, 5, LEAST, MOST}) {
                refused(SOME, "richest(" + wrong + ")", ARGUMENT, laws -> laws.richest(wrong));
            }
        });
    }

    private static void byRules() {
        section("Promise 23: byRules");
        says("Returns how much is found by rules.", () -> {
            FollowedLaws laws = laws("a00;b00;bxx<a00;c00<a00");
            is("byRules", laws.byRules(), 4.0 / 6.0);
            same("nothing changes", story(laws), story(laws("a00;b00;bxx<a00;c00<a00")));
        });
        says("Returns count(6) less the instances of the told facts, each once, as a double, divided by count(6);", () -> {
            is("none by rules", laws("a00").byRules(), 0.0);
            is("a half", laws("a00;b00<a00").byRules(), 0.5);
            is("a third", laws("a00;b11;c00<a00").byRules(), 1.0 / 3.0);
            is("told ones each once", laws("a0x;ax0;axx;bxy<axx").byRules(), 16.0 / 26.0);
            is("a told one that is dropped", laws("a00;a0x;b00<a00").byRules(), 1.0 / 5.0);
            is("a told one that a rule finds", laws("a00;b00;b00<a00;c00<a00").byRules(), 1.0 / 3.0);
            is("a told one that is dropped in a round", laws("b11;bxx<b11").byRules(), 3.0 / 4.0);
            is("most", laws("a00;axy<a00;bxy<a00;cxy<a00;dxy<a00").byRules(), 63.0 / 64.0);
            for (int told = 1; told <= 12; told++) {
                is("of " + told, laws(TWELVE.substring(0, 4 * told - 1), "bxy<a00").byRules(), 16.0 / (16 + told));
            }
        });
        says("0.0 if that is 0.", () -> {
            is("of a new object", new FollowedLaws().byRules(), 0.0);
            is("of rules alone", laws("a00<b00;axy<a00").byRules(), 0.0);
            holds("it is no -0.0", 1.0 / new FollowedLaws().byRules() > 0.0);
            holds("nor if none is found by rules", 1.0 / laws("a00").byRules() > 0.0);
        });
    }

    private static void hashed(String buffer, String... texts) {
        FollowedLaws laws = typed(buffer, texts);
        holds("the digest of " + String.join(" ", texts) + " and " + buffer, laws.digest() == hash(laws, buffer));
        same("nothing changes", story(laws), story(typed(buffer, texts)));
    }

    private static void differ(String what, FollowedLaws one, FollowedLaws other) {
        holds(what + " makes a difference", one.digest() != other.digest());
    }

    private static void digest() {
        section("Promise 24: digest");
        says("Computes a hash of the whole state.", () -> {
            differ("a told fact", laws("a00"), laws("a01"));
            differ("a rule", laws("a00<b00"), laws("a00<b01"));
            differ("a second part", laws("a00<b00"), laws("a00<b00&b00"));
            differ("a sign", typed("a"), typed("b"));
            differ("a saved state", laws("a00"), laws("a00", "a00"));
            holds("but not how it came", laws("a00;b00<a00").digest() == laws("b00<a00;a00").digest());
        });
        says("The hash starts at 2833. For each value v of the following list, in order, the hash becomes 31 * hash + v, in long"
                + " arithmetic with overflow.", () -> {
            List<Long> zeros = new ArrayList<>(Collections.nCopies(23, 0L));
            holds("of a new object", new FollowedLaws().digest() == hashOf(zeros));
            holds("as big numbers", new FollowedLaws().digest() == java.math.BigInteger.valueOf(31).pow(23)
                    .multiply(java.math.BigInteger.valueOf(2833)).longValue());
            zeros.set(22, 1L);
            zeros.add((long) '~');
            holds("of a sign", typed("~").digest() == hashOf(zeros));
        });
        says("The values are: count(0) to count(7);", () -> {
            hashed("", "a00", "a00", "a00");
            hashed("", "a00;a0x;b00<a00;c00<b00");
            hashed("", FIVE_RULES, "a00");
            hashed("", often(6, "a00<b00", ";"));
            FollowedLaws full = FULL.get();
            holds("of all that is full", full.digest() == hash(full, often(60, "a", "")));
        });
        says("for each told fact told and spare;", () -> {
            hashed("", "a00;a0x;b11");
            hashed("", TWELVE);
            hashed("", "a00;b00;b00<a00;a00<b00");
        });
        says("for each rule its parts 0 to 2, and without with 0 to 2;", () -> {
            hashed("", "a0w<bzx&c33;d12<cyy");
            hashed("", FIVE_RULES + ";a00", "dxx<a00");
            hashed("", "a00;d00<a00;b00<a00;c00<b00;d00<c00");
        });
        says("for each fact that is found its numbers 0 to 3;", () -> {
            hashed("", "a00;b0x<a00;bx0<b01;bxx<b00;cxy<bxx");
            hashed("", TWELVE, "bxy<axy;b0x<c00;cyx<axy");
            hashed("", "a01;a12;a23;a30;axz<axy&ayz");
        });
        says("behind of 0 to 3;", () -> {
            hashed("", "a00;b00<a00;c00<b00;d00<c00;d11<d00");
            hashed("", "a00;a11;a22;axy<a22");
        });
        says("for each predicate follows of x and x, and instances of x and y;", () -> {
            hashed("", "axx;bxy;c00");
            hashed("", "a0x;bx0;cxx;dxy");
            hashed("", "d00");
        });
        says("richest of 0;", () -> {
            hashed("", "b00<a33");
            hashed("", "a00");
            hashed("", "a0x;a1x;a2x;a30;a31;a32");
        });
        says("the bits of byRules (as Double.doubleToLongBits);", () -> {
            for (int told = 1; told <= 12; told++) {
                for (String rule : new String[] {"b00<a00", "b0x<a00", "bxy<a00", "b00<a00;b1x<a00;cxy<a00", "axy<a00"}) {
                    hashed("", TWELVE.substring(0, 4 * told - 1), rule);
                }
            }
            hashed("", "a00;b00<a00");
            hashed("", "a00;axy<a00;bxy<a00;cxy<a00;dxy<a00");
        });
        says("the length of the buffer and each of its character codes.", () -> {
            for (int length = 0; length <= 60; length++) {
                hashed("!a0x<b~&cz1;".repeat(5).substring(0, length));
            }
            FollowedLaws cleared = typed("a00");
            cleared.clearBuffer();
            holds("of a cleared one", cleared.digest() == new FollowedLaws().digest());
        });
        says("Returns the hash.", () -> {
            FollowedLaws laws = SOME.get();
            long hash = hash(laws, "d22");
            holds("twice the same", laws.digest() == hash && laws.digest() == hash);
        });
    }
}
