import java.util.LinkedHashMap;
import java.util.List;
import java.util.Map;
import java.util.function.Supplier;

/** The sentences of "What it is" and "Terms", for each promise that uses them. */
abstract class TermSentences extends Sentences {
    static final String TERMS = "0123xyzw";

    /** The calls that are asked of a fact. */
    static final Map<String, FactCall> FACT_CALLS = new LinkedHashMap<>();

    /** The calls that are undoable, each as one that changes FULL_OF_ALL. */
    static final Map<String, Call> UNDOABLE = new LinkedHashMap<>();

    /** A call that FULL has to refuse. */
    private record Wrong(String name, String error, Call call) {
    }

    private static final List<Wrong> WRONGLY = List.of(
            new Wrong("tell of no fact", ARGUMENT, laws -> laws.tell(0, 4, 6)),
            new Wrong("tell of a 13th", STATE, laws -> laws.tell(3, 3, 3)),
            new Wrong("untell of no fact", ARGUMENT, laws -> laws.untell(0, 0, 5)),
            new Wrong("rule of no part", ARGUMENT, laws -> laws.rule(0, 256)),
            new Wrong("rule, the 7th", STATE, laws -> laws.rule(0, 255)),
            new Wrong("joining of no head", ARGUMENT, laws -> laws.joining(-1, 0, 0)),
            new Wrong("joining, the 7th", STATE, laws -> laws.joining(255, 0, 255)),
            new Wrong("remove of the rule -1", INDEX, laws -> laws.remove(-1)),
            new Wrong("remove of the rule 6", INDEX, laws -> laws.remove(6)),
            new Wrong("settle with 13", STATE, FollowedLaws::settle),
            new Wrong("append of 32", ARGUMENT, laws -> laws.append(32)),
            new Wrong("append of a 61st", STATE, laws -> laws.append(33)),
            new Wrong("read of no laws", ARGUMENT, FollowedLaws::read),
            new Wrong("told of -1", ARGUMENT, laws -> laws.told(-1)),
            new Wrong("partOf the rule 6", INDEX, laws -> laws.partOf(6, 0)),
            new Wrong("partOf, the part 3", ARGUMENT, laws -> laws.partOf(5, 3)),
            new Wrong("found of -1", ARGUMENT, laws -> laws.found(-1, 0)),
            new Wrong("found, the number 4", ARGUMENT, laws -> laws.found(0, 4)),
            new Wrong("count of 8", ARGUMENT, laws -> laws.count(8)),
            new Wrong("follows of no fact", ARGUMENT, laws -> laws.follows(0, 5, 4)),
            new Wrong("instances of no fact", ARGUMENT, laws -> laws.instances(4, 0, 0)),
            new Wrong("behind the round -1", ARGUMENT, laws -> laws.behind(-1)),
            new Wrong("without the rule 6", INDEX, laws -> laws.without(6, 0)),
            new Wrong("without, the number 3", ARGUMENT, laws -> laws.without(5, 3)),
            new Wrong("spare of -1", ARGUMENT, laws -> laws.spare(-1)),
            new Wrong("richest of 4", ARGUMENT, laws -> laws.richest(4)));

    /** All calls that look, or tell what would be. */
    static final Map<String, Call> LOOKS = new LinkedHashMap<>();

    static {
        FACT_CALLS.put("tell", FollowedLaws::tell);
        FACT_CALLS.put("untell", FollowedLaws::untell);
        FACT_CALLS.put("follows", FollowedLaws::follows);
        FACT_CALLS.put("instances", FollowedLaws::instances);
        UNDOABLE.put("tell", laws -> laws.tell(3, 1, 2));
        UNDOABLE.put("untell", laws -> laws.untell(0, 0, 4));
        UNDOABLE.put("rule", laws -> laws.rule(fact("d00"), fact("a00")));
        UNDOABLE.put("joining", laws -> laws.joining(fact("d11"), fact("a00"), fact("b11")));
        UNDOABLE.put("remove", laws -> laws.remove(0));
        UNDOABLE.put("settle", FollowedLaws::settle);
        UNDOABLE.put("read", FollowedLaws::read);
        LOOKS.put("firstError", FollowedLaws::firstError);
        LOOKS.put("told", laws -> laws.told(0));
        LOOKS.put("partOf", laws -> laws.partOf(0, 1));
        LOOKS.put("found", laws -> laws.found(0, 0));
        LOOKS.put("count", laws -> laws.count(4));
        LOOKS.put("follows", laws -> laws.follows(0, 0, 0));
        LOOKS.put("instances", laws -> laws.instances(0, 4, 5));
        LOOKS.put("behind", laws -> laws.behind(1));
        LOOKS.put("without", laws -> laws.without(0, 0));
        LOOKS.put("spare", laws -> laws.spare(0));
        LOOKS.put("richest", laws -> laws.richest(2));
        LOOKS.put("byRules", FollowedLaws::byRules);
        LOOKS.put("digest", FollowedLaws::digest);
    }

    /** Laws with something of everything: each undoable call changes them. */
    static final Supplier<FollowedLaws> SOME = () -> typed("d22", "a0x;a01;b11", "czw<a0z&bww;c2x<b11");

    /** 12 told facts, 6 rules, 60 signs in the buffer, 6 saved states, 13 found facts. */
    static final Supplier<FollowedLaws> FULL = () -> {
        FollowedLaws laws = laws("a00;a01;a02;a03;a10;a11;a12;a13;a20;a21;a22;a23",
                "b00<a00;" + often(5, "c11<c00", ";"));
        for (int k = 0; k < 5; k++) {
            laws.tell(0, 0, k % 4);
        }
        type(laws, often(60, "a", ""));
        return laws;
    };

    static boolean isFact(int first, int second) {
        return first >= 0 && second >= 0 && (first <= 3 ? second <= 4 : first == 4 && second <= 5);
    }

    static void all() {
        whatItIs();
        facts();
        order();
        laws();
        rules();
        firstRound();
        matches();
        newOnes();
        texts();
        syntax();
        undo();
        exceptions();
        kindsOfCalls();
    }

    private static void whatItIs() {
        section("What it is");
        says("1 to 24", "Laws with places for terms: facts that hold for anything in their places, rules that join facts"
                + " that can be made alike, facts that are thinned by stronger ones, rounds until nothing new is found, by"
                + " what each fact was found, questions that are answered by facts and by single instances, rules and facts"
                + " that are spare, what would be without them, rounds by rounds, laws as texts with errors by place, and"
                + " undo.", () -> {
                    FollowedLaws laws = laws("a0x;a01;ax2<a01", "cxz<axy&ayz;d00<c00");
                    same("found", foundIn(laws), "a0x;ax2;c0x;cx2;d00");
                    same("by what d00", origin(laws, "d00"), "2 by 2");
                    is("a single instance follows", laws.follows(2, 0, 3), 1);
                    is("a01 is spare", laws.spare(0), 1);
                    is("without the first rule", laws.without(0, 0), 3);
                    is("behind the first round", laws.behind(1), 3);
                    is("a text with an error", typed("a0x;a4").firstError(), 5);
                    laws.undo();
                    same("undone", foundIn(laws), "a0x;ax2");
                });
        says("1 to 24", "An object is used for at most 512 calls after it has been made; what later calls answer is free.",
                () -> {
                    FollowedLaws laws = new FollowedLaws();
                    for (int k = 0; k < 250; k++) {
                        laws.tell(k % 4, 4, 4);
                        laws.undo();
                    }
                    for (int k = 0; k < 11; k++) {
                        laws.append('a' + k);
                    }
                    is("the 512th call", laws.digest() == hash(typed("abcdefghijk"), "abcdefghijk") ? 1 : 0, 1);
                });
        section("Terms");
        says("1 to 24", "All numbers are integers, but for a share.", () -> {
            for (java.lang.reflect.Method method : FollowedLaws.class.getMethods()) {
                if (method.getDeclaringClass() == FollowedLaws.class) {
                    String want = method.getName().equals("byRules") ? "double"
                            : method.getName().equals("digest") ? "long" : "int";
                    same("type of " + method.getName(), method.getReturnType().getName(), want);
                }
            }
        });
    }

    // ---- Facts

    private static void facts() {
        section("Facts");
        says("2, 3, 10, 11, 17, 18, 22", "There are 4 predicates, a, b, c and d, told as 0 to 3, of two terms each.", () -> {
            FACT_CALLS.forEach((name, call) -> {
                for (int predicate = 0; predicate <= 3; predicate++) {
                    int p = predicate;
                    taken(SOME.get(), name + " of the predicate " + p, laws -> call.on(laws, p, 0, 0));
                }
                refused(SOME, name + " of the predicate -1", ARGUMENT, laws -> call.on(laws, -1, 0, 0));
                refused(SOME, name + " of the predicate 4", ARGUMENT, laws -> call.on(laws, 4, 0, 0));
            });
            taken(SOME.get(), "richest of 3", laws -> laws.richest(3));
            refused(SOME, "richest of 4", ARGUMENT, laws -> laws.richest(4));
            is("error of a", typed("a").firstError(), 1);
            is("error of d", typed("d").firstError(), 1);
            is("error of e", typed("e").firstError(), 0);
            is("error of what is ahead of a", typed("`").firstError(), 0);
            same("told by texts", toldIn(laws("d00;c00;b00;a00")), "a00;b00;c00;d00");
            is("a told as 0", laws("a00").told(0), 0);
            is("b told as 1", laws("b00").told(0), 64);
            is("c told as 2", laws("c00").told(0), 128);
            is("d told as 3", laws("d00").told(0), 192);
        });
        says("2, 3, 11, 17, 18", "A term of a fact is a constant, 0 to 3, or a place, x or y, told as 4 and 5; if a fact has a"
                + " place, the first one is x, and y is only beside x.", () -> {
            for (int first = -2; first <= 9; first++) {
                for (int second = -2; second <= 9; second++) {
                    int f = first;
                    int s = second;
                    FACT_CALLS.forEach((name, call) -> {
                        String got = answer(laws("b11"), laws -> call.on(laws, 1, f, s));
                        same(name + " of the terms " + f + " and " + s, got.equals(ARGUMENT) ? "refused" : "taken",
                                isFact(f, s) ? "taken" : "refused");
                    });
                }
            }
            for (char first : TERMS.toCharArray()) {
                for (char second : TERMS.toCharArray()) {
                    String text = "b" + first + second;
                    boolean fact = isFact(TERMS.indexOf(first), TERMS.indexOf(second));
                    same("read of " + text, answer(typed(text), FollowedLaws::read), fact ? "1" : ARGUMENT);
                }
            }
        });
        says("2, 13", "(So a fact has one of 26 pairs of terms: two constants; a constant and x; x and a constant; x and x;"
                + " x and y.)", () -> {
            int pairs = 0;
            for (int pair = 0; pair < 64; pair++) {
                int terms = pair;
                FollowedLaws laws = new FollowedLaws();
                if (answer(laws, l -> l.tell(2, terms / 8, terms % 8)).equals("1")) {
                    is("told", laws.told(0), 128 + PAIRS[Math.min(pairs, 25)]);
                    pairs++;
                }
            }
            is("pairs of terms", pairs, 26);
        });
        says("15, 16, 18", "A fact holds for anything in its places: its instances are the facts with constants alone that one"
                + " gets by putting constants into its places, the same constant everywhere into the same place; one of"
                + " constants is its own instance.", () -> {
            String[] facts = {"d21", "d2x", "dx1", "dxx", "dxy"};
            int[] masks = {1 << 9, 0xf00, 0x2222, 0x8421, 0xffff};
            for (int k = 0; k < facts.length; k++) {
                FollowedLaws laws = laws(facts[k]);
                is("found, instances of " + facts[k], laws.found(0, 3), Integer.bitCount(masks[k]));
                is("count(6) of " + facts[k], laws.count(6), Integer.bitCount(masks[k]));
                is("instances of " + facts[k], laws.instances(3, 4, 5), masks[k]);
                FollowedLaws open = laws("dxy");
                is("asked for " + facts[k], open.instances(3, open(facts[k], 1), open(facts[k], 2)), masks[k]);
            }
        });
        says("2, 13, 15, 16, 17, 21", "A fact is stronger than another one of the same predicate if both are not the same, and"
                + " all instances of the other one would also be ones of it if there were endlessly many constants: that is,"
                + " if one gets the other one by putting constants, or places, into its places.", () -> {
            for (int one : PAIRS) {
                for (int other : PAIRS) {
                    pairOfFacts(Model.text(64 + one), Model.text(64 + other));
                }
            }
            FollowedLaws row = laws("a00;a01;a02;a03");
            is("all constants are less than a place", row.follows(0, 0, 4), 0);
            FollowedLaws all = laws("a0x;a1x;a2x;a3x;axx");
            is("all instances are there", all.count(6), 16);
            is("and none is dropped", all.count(2), 5);
            is("but x and y do not follow", all.follows(0, 4, 5), 0);
            is("nor do x and a constant", all.follows(0, 4, 0), 0);
            all.tell(0, 4, 5);
            is("nor are they spare", all.spare(5), 0);
            is("as all others then are", all.spare(4), 1);
        });
    }

    private static int open(String fact, int term) {
        return TERMS.indexOf(fact.charAt(term));
    }

    /** Which facts a fact is stronger than, said by the shape of its terms. */
    private static boolean stronger(String one, String other) {
        if (one.equals(other)) {
            return false;
        }
        String terms = one.substring(1);
        switch (terms) {
            case "xy": return true;
            case "xx": return "00 11 22 33".contains(other.substring(1));
            default:
                return other.indexOf('x') < 0 && (terms.charAt(0) == 'x' && terms.charAt(1) == other.charAt(2)
                        || terms.charAt(1) == 'x' && terms.charAt(0) == other.charAt(1));
        }
    }

    private static void pairOfFacts(String one, String other) {
        boolean stronger = stronger(one, other);
        int want = one.equals(other) ? 2 : stronger ? 1 : 0;
        is(other + " of " + one, laws(one).follows(1, open(other, 1), open(other, 2)), want);
        is("c of " + one, laws(one).follows(2, open(other, 1), open(other, 2)), 0);
        if (!one.equals(other)) {
            boolean alone = stronger || stronger(other, one);
            is("found of " + one + " and " + other, laws(one + ";" + other).count(2), alone ? 1 : 2);
            is("found of two predicates", laws(one + ";a" + other.substring(1)).count(2), 2);
        }
    }

    private static void order() {
        says("13, 15, 22", "Facts have an order: by predicate, first term, second term.", () -> {
            FollowedLaws laws = new FollowedLaws();
            for (String text : new String[] {"d00", "c3x", "c33", "c30", "c2x", "bxy", "bxx", "bx0", "b0x", "b03", "a33", "a00"}) {
                laws.tell(text.charAt(0) - 'a', open(text, 1), open(text, 2));
            }
            same("told", toldIn(laws), "a00;a33;b03;b0x;bx0;bxx;bxy;c2x;c30;c33;c3x;d00");
            same("found", foundIn(laws), "a00;a33;bxy;c2x;c3x;d00");
            is("richest of a: 00 is there, so the first one is 01", laws.richest(0), 1);
            is("of d: too", laws.richest(3), 1);
            is("of c: 20 to 23 and 30 to 33 are there", laws.richest(2), 0);
            same("found by rules", foundIn(laws("a00;d00<a00;cx1<a00;cxx<a00;c3x<a00;b33<a00;a01<a00")),
                    "a00;a01;b33;c3x;cx1;cxx;d00");
            for (int predicate = 0; predicate < 4; predicate++) {
                for (int k = 1; k < PAIRS.length; k++) {
                    String one = Model.text(64 * predicate + PAIRS[k - 1]);
                    String other = Model.text(64 * predicate + PAIRS[k]);
                    same("told " + other + " first", toldIn(laws(other + ";" + one)), one + ";" + other);
                }
            }
        });
    }

    // ---- Laws

    static final String ELEVEN = "a00;a01;a02;a03;a10;a11;a12;a13;a20;a21;a22";

    private static void laws() {
        section("Laws");
        says("2, 7, 11", "There are at most 12 told facts,", () -> {
            answers(laws(ELEVEN), "tell of a 12th", laws -> laws.tell(3, 4, 5), 12);
            refused(() -> laws(ELEVEN, "d00"), "tell of a 13th", STATE, laws -> laws.tell(3, 4, 5));
            answers(typed("d00;d01", ELEVEN.substring(4)), "read of an 11th and a 12th", FollowedLaws::read, 2);
            refused(() -> typed("d00;d01", ELEVEN), "read of a 12th and a 13th", STATE, FollowedLaws::read);
            answers(laws(ELEVEN, "b00<a00"), "settle with 12", FollowedLaws::settle, 12);
            refused(() -> laws(ELEVEN, "b00<a00;b01<a00"), "settle with 13", STATE, FollowedLaws::settle);
            is("told behind settle", after(laws(ELEVEN, "b00<a00"), FollowedLaws::settle).count(0), 12);
        });
        says("2, 11", "no two the same,", () -> {
            FollowedLaws laws = laws("a00;a00;axy;axy", "axy");
            is("read twice", laws.count(0), 2);
            answers(laws, "tell of one that is there", l -> l.tell(0, 0, 0), 2);
            same("told", toldIn(laws), "a00;axy");
            answers(laws, "tell of another one", l -> l.tell(0, 0, 1), 3);
            laws.untell(0, 0, 0);
            same("untold at once", toldIn(laws), "a01;axy");
        });
        says("13", "kept in their order;", () -> {
            FollowedLaws laws = laws("d00;a33", "b11");
            same("told", toldIn(laws), "a33;b11;d00");
            laws.tell(0, 0, 0);
            same("then", toldIn(laws), "a00;a33;b11;d00");
            laws.untell(0, 3, 3);
            same("and then", toldIn(laws), "a00;b11;d00");
        });
        says("4, 5, 11", "and at most 6 rules,", () -> {
            String five = often(5, "a00<b00", ";");
            answers(laws(five), "rule, the 6th", laws -> laws.rule(0, 0), 5);
            answers(laws(five), "joining, the 6th", laws -> laws.joining(0, 0, 0), 5);
            answers(typed("a00<b00", five), "read of a 6th", FollowedLaws::read, 1);
            String six = five + ";a00<b00";
            refused(() -> laws(six), "rule, the 7th", STATE, laws -> laws.rule(0, 0));
            refused(() -> laws(six), "joining, the 7th", STATE, laws -> laws.joining(0, 0, 0));
            refused(() -> typed("a00<b00", six), "read of a 7th", STATE, FollowedLaws::read);
            refused(() -> typed("a00<b00;a00<b00", five), "read of a 6th and a 7th", STATE, FollowedLaws::read);
            is("rules", laws(six).count(1), 6);
        });
    }

    static FollowedLaws after(FollowedLaws laws, Call call) {
        call.on(laws);
        return laws;
    }

    private static void rules() {
        says("4, 5, 6, 11, 14, 15, 20", "numbered from 0 (if one is removed, those behind it have numbers that are less by 1).",
                () -> {
            String[] rules = {"b00<a00", "b11<a00&a00", "b22<a00", "b33<a00", "c00<a00&axy", "d00<a00"};
            for (int gone = 0; gone < rules.length; gone++) {
                FollowedLaws laws = laws("a00", String.join(";", rules[0], rules[1], rules[2], rules[3], rules[4]), rules[5]);
                same("numbers", rulesIn(laws), String.join(";", rules));
                laws.remove(gone);
                java.util.List<String> left = new java.util.ArrayList<>(java.util.List.of(rules));
                left.remove(gone);
                same("without the rule " + gone, rulesIn(laws), String.join(";", left));
                for (int number = 0; number < 5; number++) {
                    same("found by", origin(laws, left.get(number).substring(0, 3)), "1 by " + number);
                    is("without", laws.without(number, 2), 1);
                }
                same("what it found", origin(laws, rules[gone].substring(0, 3)), "-");
                answers(laws, "the next one has the number", l -> l.rule(0, 0), 5);
            }
            FollowedLaws laws = new FollowedLaws();
            for (int number = 0; number < 6; number++) {
                answers(laws, "a rule's number", number % 2 == 0 ? l -> l.rule(1, 1) : l -> l.joining(1, 1, 1), number);
            }
        });
        says("4, 5, 10, 11, 14", "A rule has a head and a body of 1 or 2 parts; each of these is a predicate with two terms, each"
                + " a constant, 0 to 3, or a place of the rule, x, y, z or w, told as 4 to 7.", () -> {
            for (int atom = 0; atom < 256; atom++) {
                int a = atom;
                FollowedLaws laws = new FollowedLaws();
                answers(laws, "rule of " + a, l -> l.rule(a, 255 - a), 0);
                answers(laws, "joining of " + a, l -> l.joining(a, a ^ 37, a ^ 90), 1);
                is("head", laws.partOf(0, 0), a);
                is("part", laws.partOf(0, 1), 255 - a);
                is("head", laws.partOf(1, 0), a);
                is("one", laws.partOf(1, 1), a ^ 37);
                is("other", laws.partOf(1, 2), a ^ 90);
                FollowedLaws read = laws(Model.text(a) + "<" + Model.text(255 - a), Model.text(a ^ 37) + "<d11&" + Model.text(a));
                is("head as a text", read.partOf(0, 0), a);
                is("part as a text", read.partOf(0, 1), 255 - a);
                is("no other one as a text", read.partOf(0, 2), NONE);
                is("other as a text", read.partOf(1, 2), a);
            }
            is("no part", typed("a00<;").firstError(), 4);
            is("a third part", typed("a00<b00&c00&d00").firstError(), 11);
        });
    }

    // ---- Rounds

    private static void firstRound() {
        section("Rounds");
        says("15, 16, 19", "The facts that are found are, at first, the told facts but for those than which another told fact is"
                + " stronger; they are found in the round 0, by no rule.", () -> {
            FollowedLaws laws = laws("a00;a0x;axx;b11;bxx;bx2;b31");
            same("found", foundIn(laws), "a0x;axx;b31;bx2;bxx");
            is("dropped", laws.count(5), 2);
            is("behind the round 0", laws.behind(0), 5);
            for (int place = 0; place < 5; place++) {
                is("round", laws.found(place, 1), 0);
                is("rule", laws.found(place, 2), NONE);
            }
            FollowedLaws again = laws("a00;b00;b00<a00");
            same("a told one that a rule finds, too", origin(again, "b00"), "0 by -1");
        });
        says("15, 16, 19", "Then there are rounds, numbered from 1.", () -> {
            FollowedLaws laws = laws("a00;b00<a00;c00<b00");
            same("first", origin(laws, "b00"), "1 by 0");
            same("second", origin(laws, "c00"), "2 by 1");
            is("rounds", laws.count(3), 2);
            is("none without a rule", laws("a00").count(3), 0);
        });
        says("15, 16", "In a round, all rules are gone through by ascending numbers, and for each one all choices of facts, of"
                + " those found ahead of the round, one with its predicate for each part of its body (for two parts: the first"
                + " part's fact by ascending order, and for each the second part's; one fact can be chosen for both):", () -> {
            is("one fact for both parts", laws("a00;b00<axy&azw").count(4), 2);
            is("each with each", laws("a00;a11;a22;b00<axy&azw").count(4), 18);
            is("each of one predicate with each of the other one", laws("a00;a11;c00;c11;c22;b00<axy&czw").count(4), 12);
            is("none with its predicate", laws("a00;b00<c00").count(4), 0);
            is("none for the other part", laws("a00;b00<axy&dxy").count(4), 0);
            is("no fact at all", laws("b00<axy").count(4), 0);
            FollowedLaws ahead = laws("a00;c00<b00;b00<a00;d00<c00");
            same("by ahead of the round, not in it", origin(ahead, "c00"), "2 by 0");
            same("nor behind it in its own", origin(ahead, "d00"), "3 by 2");
            FollowedLaws up = laws("a00;b00<a00;c00<b00");
            same("also if the numbers ascend", origin(up, "c00"), "2 by 1");
            is("matches of two rounds and the last one", up.count(4), 1 + 2 + 2);
            same("all rules", foundIn(laws("a00;a01<a00;a02<a00;a03<a00;a10<a00;a11<a00", "a12<a00")),
                    "a00;a01;a02;a03;a10;a11;a12");
        });
    }

    private static void matches() {
        says("15, 16", "Places of each chosen fact are places of their own, apart from those of the rule and of the other"
                + " one.", () -> {
            finds("ax0;cxy<ayx", "ax0;c0x");
            finds("a0x;cxx<ax0", "a0x;c00");
            finds("ax1;bx2;cxy<ax1&by2", "ax1;bx2;cxy");
            finds("axy;bxy;cxy<axz&byz", "axy;bxy;cxy");
            finds("axy;b01;cxy<axz&bzy", "axy;b01;cx1");
            finds("axx;cxy<axz&ayw", "axx;cxy");
            finds("axy;czw<axy", "axy;cxy");
            finds("axx;c01<ax1&a0x", "axx");
        });
        says("15, 16", "Each part of the body is made alike with its fact, term by term: two terms are made the same; if they"
                + " are unlike constants, this choice fails.", () -> {
            for (int one = 0; one < 4; one++) {
                for (int other = 0; other < 4; other++) {
                    String rule = ";c11<a" + one + "1";
                    is("first terms", laws("a" + other + "1" + rule).count(4), one == other ? 2 : 0);
                    is("second terms", laws("a1" + other + ";c11<a1" + one).count(4), one == other ? 2 : 0);
                    is("of one place", laws("a" + one + other + ";c11<axx").count(4), one == other ? 2 : 0);
                    is("of one place of the fact", laws("axx;c11<a" + one + other).count(4), one == other ? 2 : 0);
                    is("over two parts", laws("a0" + one + ";b" + other + "0;c11<axy&byz").count(4), one == other ? 2 : 0);
                }
            }
            finds("axx;b01;c11<axy&bxy", "axx;b01");
            finds("axx;bx1;cxy<axy&bxy", "axx;bx1;c11");
            finds("axx;bxx;cxz<axy&byz", "axx;bxx;cxx");
            finds("axx;bxx;dxx;cxw<axy&byw", "axx;bxx;cxx;dxx");
            finds("a3x;bxy;cyz<axy&byz", "a3x;bxy;cxy");
            finds("a3x;bxx;cyz<axy&bzx", "a3x;bxx;cx3");
        });
        says("15, 16", "If it does not fail, it is a match; the head, with what its places have become, is a result: a fact,"
                + " with x and y for the places that are left (unlike ones, if they were not made the same).", () -> {
            String[][] heads = {{"00", "00"}, {"0w", "0x"}, {"w0", "x0"}, {"ww", "xx"}, {"wz", "xy"}, {"zw", "xy"},
                {"x1", "31"}, {"1y", "10"}, {"xy", "30"}, {"yx", "03"}, {"xw", "3x"}, {"wy", "x0"}, {"xx", "33"}};
            for (String[] head : heads) {
                finds("a30;c" + head[0] + "<axy", "a30;c" + head[1]);
            }
            finds("axy;cyx<axy", "axy;cxy");
            finds("axy;cyy<axy", "axy;cxx");
            finds("axx;cyx<axy", "axx;cxx");
            finds("axx;cyw<axy", "axx;cxy");
            finds("ax2;c1x<axy", "ax2;c1x");
            finds("ax2;cyx<axy", "ax2;c2x");
            is("a match", laws("a30;c00<axy").count(4), 2);
            is("one that fails", laws("a30;c00<axx").count(4), 0);
            is("a match, also if its result is not new", laws("a30;a30<a30").count(4), 1);
        });
    }

    private static void newOnes() {
        says("15, 16, 19", "A result is new if it was not found ahead of the round, nor is any fact that was, stronger than it.",
                () -> {
            is("found ahead", laws("a00;b11;b11<a00").count(3), 0);
            is("a stronger one was", laws("a00;b1x;b11<a00").count(3), 0);
            is("a stronger one for places", laws("a00;bxy;b1x<a00").count(3), 0);
            is("a weaker one was", laws("a00;b11;b1x<a00").count(3), 1);
            is("only instances were", laws("a00;b10;b11;b12;b13;b1x<a00").count(3), 1);
            is("another one was", laws("a00;b1x;bx1<a00").count(3), 1);
            FollowedLaws once = laws("a00;b11<a00;bxx<a00;c00<b11");
            same("a stronger one of the same round does not make it old", origin(once, "bxx"), "1 by 1");
            is("so that it is dropped", once.count(5), 1);
            is("also if the stronger one comes first", laws("a00;bxx<a00;b11<a00;bxy<a00;b1x<a00").count(5), 3);
            FollowedLaws gone = laws("a00;b11;bxx<a00;c00<a00;b11<c00");
            is("dropped ones are not found again", gone.count(5), 1);
        });
        says("15", "New ones are found in this round, by the lowest rule of which they are a result in it.", () -> {
            FollowedLaws laws = laws("a00;c00<b00;c00<a00;c00<a00&a00;b00<a00");
            same("found by the lowest one with a match", origin(laws, "c00"), "1 by 1");
            laws.remove(1);
            same("then by the next one", origin(laws, "c00"), "1 by 1");
            laws.remove(1);
            same("then in a later round", origin(laws, "c00"), "2 by 0");
        });
        says("15, 16, 19", "Behind the rules, all facts, new ones, too, than which another one is stronger, are dropped.", () -> {
            FollowedLaws laws = laws("a00;b00;b01;c22;b0x<a00;c2x<a00;cx2<a00;cxy<a00;d00<c22");
            same("left", foundIn(laws), "a00;b0x;cxy;d00");
            is("told ones and new ones", laws.count(5), 2 + 3);
            is("behind the round 0", laws.behind(0), 4);
            is("behind the round 1", laws.behind(1), 4);
            same("by its own rule", origin(laws, "cxy"), "1 by 3");
            same("a dropped one was chosen ahead", origin(laws, "d00"), "1 by 4");
            is("unlike ones stay", laws("a00;b0x<a00;bx0<a00;bxx<a00").count(2), 4);
        });
        says("15, 16, 19", "If there was none that is new, nothing changes, and there is no further round (this one does not"
                + " count).", () -> {
            FollowedLaws laws = laws("a00;b00<a00;a00<b00");
            is("rounds", laws.count(3), 1);
            is("but its matches do", laws.count(4), 1 + 2);
            is("behind it", laws.behind(2), 2);
            is("no rule", laws("a00;a11").count(4), 0);
            is("none at once", laws("a00;a00<a00").count(3), 0);
        });
        says("17, 18, 21", "A fact follows if it is found at the end, or a fact that is found is stronger than it.", () -> {
            FollowedLaws laws = laws("a0x;a01;b00<a01;c00<d00");
            is("found", laws.follows(0, 0, 4), 2);
            is("found by a rule", laws.follows(1, 0, 0), 2);
            is("told, and dropped", laws.follows(0, 0, 1), 1);
            is("never found", laws.follows(0, 0, 2), 1);
            is("neither", laws.follows(0, 1, 0), 0);
            is("a stronger one does not", laws.follows(0, 4, 5), 0);
            is("head of a rule without matches", laws.follows(2, 0, 0), 0);
            is("instances", laws.instances(0, 4, 5), 0xf);
            is("spare by a stronger one", laws.spare(0), 1);
            is("a stronger one is not", laws.spare(1), 0);
        });
    }

    // ---- Input text

    private static void texts() {
        section("Input text");
        says("8, 10, 11", "The buffer has at most 60 characters.", () -> {
            answers(typed(often(59, "~", "")), "append of the 60th", laws -> laws.append(33), 60);
            refused(() -> typed(often(60, "~", "")), "append of the 61st", STATE, laws -> laws.append(33));
            is("error at the last place", typed(often(15, "a00;", "").substring(0, 59) + "!").firstError(), 59);
            is("none in 60", typed(often(15, "a00;", "")).firstError(), 60);
            answers(typed(often(15, "a00", ";")), "read of 59", FollowedLaws::read, 15);
            refused(() -> typed(often(15, "a00;", "")), "read of 60", ARGUMENT, FollowedLaws::read);
            is("length of 60", typed(often(60, "~", "")).clearBuffer(), 60);
        });
        says("11", "Laws as a text are one or more laws with \";\" between them, each a fact or a rule.", () -> {
            refused(() -> typed("", "a00"), "read of nothing", ARGUMENT, FollowedLaws::read);
            answers(typed("a00"), "read of a fact", FollowedLaws::read, 1);
            answers(typed("a00<b00"), "read of a rule", FollowedLaws::read, 1);
            answers(typed("a00;a00<b00;c00"), "read of three", FollowedLaws::read, 3);
            for (String text : new String[] {";", "a00;", ";a00", "a00;;b00", "a00b00", "a00,b00", "a00;a00<b00;"}) {
                refused(() -> typed(text, "a00"), "read of " + text, ARGUMENT, FollowedLaws::read);
            }
        });
        says("10, 11", "A fact is a letter \"a\" to \"d\" and two terms, each a digit 0 to 3, \"x\" or \"y\" (as in a fact).", () -> {
            for (int predicate = 0; predicate < 4; predicate++) {
                for (int pair = 0; pair < 64; pair++) {
                    String text = Model.text(64 * predicate + pair);
                    boolean fact = isFact(pair / 8, pair % 8);
                    same("read of " + text, answer(typed(text), FollowedLaws::read), fact ? "1" : ARGUMENT);
                    is("error of " + text + ";", typed(text + ";").firstError(), fact ? 4 : 3);
                }
            }
        });
        says("10, 11", "A rule is a letter \"a\" to \"d\" and two terms, \"<\", and one or two parts, with \"&\" between them, each a"
                + " letter \"a\" to \"d\" and two terms; terms of a rule are digits 0 to 3, \"x\", \"y\", \"z\" or \"w\".", () -> {
            for (String text : new String[] {"d3w<a0z", "awz<dyx&d33"}) {
                answers(typed(text), "read of " + text, FollowedLaws::read, 1);
                for (int length = 1; length < text.length(); length++) {
                    String start = text.substring(0, length);
                    is("error of " + start, typed(start).firstError(), length);
                    boolean whole = start.length() == 7;
                    same("read of " + start, answer(typed(start), FollowedLaws::read), whole ? "1" : ARGUMENT);
                }
            }
            is("no third part", typed("a00<b00&c00&").firstError(), 11);
            is("no second head", typed("a00<b00<").firstError(), 7);
            is("no & ahead of <", typed("a00&").firstError(), 3);
        });
        says("10, 11", "(A law that goes on with \"<\" is a rule, so its head can have all terms of a rule; without \"<\" it must be"
                + " a fact.)", () -> {
            for (int pair = 0; pair < 64; pair++) {
                String head = Model.text(pair);
                is("error of " + head + "<", typed(head + "<").firstError(), 4);
                answers(typed(head + "<b00"), "read of " + head + "<b00", FollowedLaws::read, 1);
                is("error of " + head + " alone", typed(head).firstError(), 3);
                boolean fact = isFact(pair / 8, pair % 8);
                is("error of " + head + ";b", typed(head + ";b").firstError(), fact ? 5 : 3);
                same("read of " + head, answer(typed(head), FollowedLaws::read), fact ? "1" : ARGUMENT);
            }
        });
    }

    private static void syntax() {
        says("10, 11", "The buffer is read from left to right; a character is a syntax error if no laws as a text, of any length,"
                + " begin with the characters before it and this character.", () -> {
            String letters = "abcd";
            String terms = "0123xyzw";
            String[][] goesOn = {{"", letters}, {"a", terms}, {"a0", terms}, {"a00", "<;"}, {"ayx", "<"}, {"a0y", "<"},
                {"axz", "<"}, {"axy", "<;"}, {"axx", "<;"}, {"a0x", "<;"}, {"ax0", "<;"}, {"aw0", "<"}, {"a00<", letters},
                {"a00<b", terms}, {"a00<b0", terms}, {"a00<bzw", "&;"}, {"a00<b00&", letters}, {"a00<b00&c", terms},
                {"a00<b00&cw", terms}, {"a00<b00&cww", ";"}, {"a00;", letters}, {"a00<b00;", letters},
                {"a00<b00&c00;", letters}, {"a00;ayx", "<"}, {"azz<b00;a0y", "<"}};
            for (String[] state : goesOn) {
                for (int code = 33; code <= 126; code++) {
                    FollowedLaws laws = typed(state[0] + (char) code);
                    int length = state[0].length();
                    boolean fits = state[1].indexOf(code) >= 0;
                    is("error of " + state[0] + (char) code, laws.firstError(), fits ? length + 1 : length);
                }
            }
            is("the first one of two", typed("a00;e11;f").firstError(), 4);
            is("what is behind an error does not mend it", typed("a0e<b00;a00").firstError(), 2);
            is("what could only be read with more than 60", typed(often(14, "a00;", "") + "aww<").firstError(), 60);
        });
    }

    // ---- Undo

    private static void undo() {
        section("Undo");
        says("2, 3, 4, 5, 6, 7, 11, 12", "Each method that is marked \"undoable\" and does not throw an exception saves the state from"
                + " before it (also if it changes nothing): all, but the buffer and the saved states.", () -> {
            UNDOABLE.forEach((name, call) -> {
                FollowedLaws laws = SOME.get();
                String ahead = state(laws);
                call.on(laws);
                is("states behind " + name, laws.count(7), 3);
                holds(name + " changes something here", !state(laws).equals(ahead));
                laws.append('~');
                String buffer = name.equals("read") ? "~" : "d22~";
                answers(laws, "undo of " + name, FollowedLaws::undo, 2);
                same("undone " + name, state(laws), ahead);
                holds("the buffer stays behind the undo of " + name, laws.digest() == hash(laws, buffer));
            });
            FollowedLaws same = typed("a00;b00", "a00;b00", "a00<c00");
            Call[] idle = {l -> l.tell(0, 0, 0), l -> l.untell(3, 3, 3), FollowedLaws::settle, FollowedLaws::read};
            for (int k = 0; k < idle.length; k++) {
                String ahead = state(same);
                idle[k].on(same);
                same("nothing changes", state(same), ahead);
                is("but it is saved", same.count(7), 3 + k);
            }
            LOOKS.forEach((name, call) -> {
                FollowedLaws laws = SOME.get();
                call.on(laws);
                is(name + " saves nothing", laws.count(7), 2);
            });
            FollowedLaws laws = SOME.get();
            laws.append('<');
            laws.clearBuffer();
            is("append and clearBuffer save nothing", laws.count(7), 2);
            laws.undo();
            is("nor does undo", laws.count(7), 1);
            is("the buffer is not restored", laws.clearBuffer(), 0);
            for (Wrong wrong : WRONGLY) {
                FollowedLaws full = after(FULL.get(), FollowedLaws::undo);
                same(wrong.name, answer(full, wrong.call), wrong.error);
                is(wrong.name + " saves nothing", full.count(7), 5);
            }
        });
        says("2, 3, 4, 5, 6, 7, 11, 12", "At most 6 states are saved; the oldest one is dropped first.", () ->
            UNDOABLE.forEach((name, call) -> {
                FollowedLaws six = withStates(5);
                call.on(six);
                is("states behind " + name + ", the 6th", six.count(7), 6);
                drain(six);
                same("the oldest state", state(six), " |  | ");
                FollowedLaws seven = withStates(6);
                call.on(seven);
                is("states behind " + name + ", the 7th", seven.count(7), 6);
                drain(seven);
                same("the oldest state that is left", state(seven), " | b11<c11 | ");
                FollowedLaws nine = withStates(6);
                call.on(nine);
                nine.tell(3, 0, 0);
                nine.tell(3, 0, 1);
                drain(nine);
                same("the oldest state then", state(nine), "c00;c01 | b11<c11 | c00;c01");
            }));
    }

    /** So many saved states: from before a rule, and from before each of c00, c01, .. */
    private static FollowedLaws withStates(int states) {
        FollowedLaws laws = typed("d22");
        laws.rule(fact("b11"), fact("c11"));
        for (int k = 0; k < states - 1; k++) {
            laws.tell(2, k / 4, k % 4);
        }
        return laws;
    }

    private static void drain(FollowedLaws laws) {
        for (int left = 5; left >= 0; left--) {
            answers(laws, "undo", FollowedLaws::undo, left);
        }
        same("undo, if none is left", answer(laws, FollowedLaws::undo), STATE);
    }

    // ---- Exceptions

    private static void exceptions() {
        section("Exceptions");
        says("2 to 8, 11 to 22", "A call that throws an exception changes nothing.", () -> {
            for (Wrong wrong : WRONGLY) {
                refused(FULL, wrong.name, wrong.error, wrong.call);
            }
            refused(() -> typed("b00<a00;a00;d11", ELEVEN, "d00;c00<a00"), "read of a 13th", STATE, FollowedLaws::read);
            refused(() -> typed("d11;b00<a00;b00<a00", "d00;" + often(5, "c00<d00", ";")), "read of a 7th rule", STATE,
                    FollowedLaws::read);
            refused(() -> typed("d11;b00<a00;b", "d00"), "read of an end that is none", ARGUMENT, FollowedLaws::read);
            refused(() -> typed("d11"), "undo of none", STATE, FollowedLaws::undo);
        });
        says("2, 4, 5, 8, 11, 14, 20", "If several exceptions apply, the one that is named first in the throws clause is thrown.",
                () -> {
            refused(FULL, "tell of no fact, and 12 there", ARGUMENT, laws -> laws.tell(0, 0, 5));
            refused(FULL, "tell of no predicate, and 12 there", ARGUMENT, laws -> laws.tell(4, 0, 0));
            refused(FULL, "rule of no head, and 6 there", ARGUMENT, laws -> laws.rule(256, 0));
            refused(FULL, "rule of no part, and 6 there", ARGUMENT, laws -> laws.rule(0, -1));
            refused(FULL, "joining of no head, and 6 there", ARGUMENT, laws -> laws.joining(-1, 0, 0));
            refused(FULL, "joining of no one, and 6 there", ARGUMENT, laws -> laws.joining(0, 256, 0));
            refused(FULL, "joining of no other, and 6 there", ARGUMENT, laws -> laws.joining(0, 0, 256));
            refused(FULL, "append of no code, and 60 there", ARGUMENT, laws -> laws.append(127));
            refused(() -> typed("d00;d01;", ELEVEN), "read of what is not complete, and of a 13th", ARGUMENT, FollowedLaws::read);
            refused(() -> typed("d00;d01;d0y", ELEVEN), "read of what is no fact, and of a 13th", ARGUMENT, FollowedLaws::read);
            refused(() -> typed("a00<a00;a00<", often(6, "c00<d00", ";")), "read of half a law, and of a 7th rule", ARGUMENT,
                    FollowedLaws::read);
            refused(FULL, "partOf of no rule and no part", INDEX, laws -> laws.partOf(6, 3));
            refused(FULL, "partOf of no rule and no part", INDEX, laws -> laws.partOf(-1, -1));
            refused(FULL, "without of no rule and no number", INDEX, laws -> laws.without(6, 3));
            refused(FULL, "without of no rule and no number", INDEX, laws -> laws.without(-1, -1));
        });
        says("13 to 15, 21", "The constants: `NONE = -1`: There is nothing to return.", () -> {
            is("NONE", FollowedLaws.NONE, -1);
            FollowedLaws laws = laws("a00;b00<a00");
            is("told", laws.told(1), -1);
            is("partOf", laws.partOf(0, 2), -1);
            is("found", laws.found(2, 0), -1);
            is("the rule of a told one", laws.found(0, 2), -1);
            is("spare", laws.spare(1), -1);
        });
    }

    // ---- what stands ahead of the calls

    private static void kindsOfCalls() {
        says("2 to 7", "Ahead of the calls `tell`, `untell`, `rule`, `joining`, `remove`, `settle` the interface says: ---- laws.",
                () -> UNDOABLE.forEach((name, call) -> {
                    FollowedLaws laws = SOME.get();
                    call.on(laws);
                    holds(name + " changes the laws", !state(laws).equals(state(SOME.get())));
                    is("the buffer behind " + name, laws.clearBuffer(), name.equals("read") ? 0 : 3);
                }));
        says("8 to 12", "Ahead of the calls `append`, `clearBuffer`, `firstError`, `read`, `undo` the interface says: ---- texts.",
                () -> {
            FollowedLaws laws = SOME.get();
            laws.append(';');
            laws.firstError();
            laws.clearBuffer();
            same("laws behind texts that are not read", state(laws), state(SOME.get()));
            is("nor are states saved", laws.count(7), 2);
            laws.append('a');
            laws.undo();
            is("undo takes no text", laws.clearBuffer(), 1);
        });
        says("13 to 19", "Ahead of the calls `told`, `partOf`, `found`, `count`, `follows`, `instances`, `behind` the interface says:"
                + " ---- looks; nothing is changed.", () -> {
            for (Supplier<FollowedLaws> made : List.of(SOME, FULL, FollowedLaws::new)) {
                looksAt(made, 14, "told", (laws, k) -> laws.told(k));
                looksAt(made, 21, "partOf", (laws, k) -> laws.partOf(k / 3, k % 3));
                looksAt(made, 60, "found", (laws, k) -> laws.found(k / 4, k % 4));
                looksAt(made, 8, "count", (laws, k) -> laws.count(k));
                looksAt(made, 104, "follows", (laws, k) -> laws.follows(k / 26, PAIRS[k % 26] / 8, PAIRS[k % 26] % 8));
                looksAt(made, 104, "instances", (laws, k) -> laws.instances(k / 26, PAIRS[k % 26] / 8, PAIRS[k % 26] % 8));
                looksAt(made, 5, "behind", (laws, k) -> laws.behind(k));
            }
        });
        says("20 to 24", "Ahead of the calls `without`, `spare`, `richest`, `byRules`, `digest` the interface says: ---- what would be;"
                + " nothing is changed.", () -> {
            for (Supplier<FollowedLaws> made : List.of(SOME, FULL, FollowedLaws::new)) {
                looksAt(made, 21, "without", (laws, k) -> laws.without(k / 3, k % 3));
                looksAt(made, 14, "spare", (laws, k) -> laws.spare(k));
                looksAt(made, 4, "richest", (laws, k) -> laws.richest(k));
                looksAt(made, 1, "byRules", (laws, k) -> laws.byRules());
                looksAt(made, 1, "digest", (laws, k) -> laws.digest());
            }
        });
    }

    private interface Look {
        double at(FollowedLaws laws, int number);
    }

    /** A call with many arguments: the first answers come once more, and nothing is changed. */
    private static void looksAt(Supplier<FollowedLaws> made, int many, String name, Look look) {
        FollowedLaws laws = made.get();
        StringBuilder answers = new StringBuilder();
        StringBuilder again = new StringBuilder();
        for (int k = 0; k < 2 * many; k++) {
            int number = k % many;
            (k < many ? answers : again).append(answer(laws, l -> look.at(l, number))).append(' ');
        }
        same("answers of " + name + ", again", again.toString(), answers.toString());
        same("the state behind " + name, story(laws), story(made.get()));
    }
}
