/** For each promise of the document what it says of ordinary inputs, edges and wrong inputs. */
public final class PromiseTests extends Checks {
    public static void main(String[] args) {
        Runnable[] tests = {PromiseTests::newObject, PromiseTests::tell, PromiseTests::untell,
            PromiseTests::rule, PromiseTests::joining, PromiseTests::remove, PromiseTests::settle,
            PromiseTests::append, PromiseTests::clearBuffer, PromiseTests::firstError, PromiseTests::read,
            PromiseTests::undo, PromiseTests::told, PromiseTests::partOf, PromiseTests::found,
            PromiseTests::count, PromiseTests::follows, PromiseTests::instances, PromiseTests::behind,
            PromiseTests::without, PromiseTests::spare, PromiseTests::richest, PromiseTests::byRules,
            PromiseTests::digest};
        for (int promise = 1; promise <= tests.length; promise++) {
            about = "promise " + promise;
            tests[promise - 1].run();
        }
        System.out.println("PromiseTests: " + passed + " passed, " + failed + " failed");
        if (failed != 0) {
            System.exit(1);
        }
    }

    // ---- helpers

    /** All that is no fact is refused; all 104 facts are not. */
    private static void asksForFacts(FollowedLaws laws, String name, FactCall call) {
        int[][] wrong = {{-1, 0, 0}, {4, 0, 0}, {0, -1, 0}, {0, 5, 0}, {0, 5, 4}, {0, 5, 5}, {0, 6, 4}, {0, 0, -1},
            {0, 0, 5}, {3, 3, 5}, {0, 0, 6}, {0, 4, 6}, {0, 4, -1}, {0, 4, 7}, {0, 8, 0}, {0, 0, 8},
            {Integer.MIN_VALUE, 0, 0}, {Integer.MAX_VALUE, 0, 0}, {0, Integer.MIN_VALUE, 0},
            {0, Integer.MAX_VALUE, 0}, {0, 0, Integer.MIN_VALUE}, {0, 4, Integer.MAX_VALUE}};
        for (int[] f : wrong) {
            refuses(laws, name + "(" + f[0] + ", " + f[1] + ", " + f[2] + ")", ARGUMENT,
                    made -> call.on(made, f[0], f[1], f[2]));
        }
    }

    // ---- the promises

    private static void newObject() {
        FollowedLaws laws = new FollowedLaws();
        is("NONE", NONE, -1);
        for (int what = 0; what <= 7; what++) {
            is("count(" + what + ")", laws.count(what), 0);
        }
        is("told(0)", laws.told(0), NONE);
        is("found(0, 0)", laws.found(0, 0), NONE);
        is("clearBuffer()", laws.clearBuffer(), 0);
        refuses(laws, "undo()", STATE, FollowedLaws::undo);
        refuses(laws, "partOf(0, 0)", INDEX, made -> made.partOf(0, 0));
    }

    private static void tell() {
        FollowedLaws laws = new FollowedLaws();
        is("tell d", laws.tell(3, 1, 2), 1);
        is("tell a", laws.tell(0, 4, 5), 2);
        is("tell again", laws.tell(3, 1, 2), 2);
        is("each one is saved", laws.count(7), 3);
        same("order", toldIn(laws), "axy;d12");
        same("they are found, too", foundIn(laws), "axy;d12");
        for (int predicate = 0; predicate < 4; predicate++) {
            for (int pair : PAIRS) {
                FollowedLaws one = new FollowedLaws();
                one.tell(predicate, pair / 8, pair % 8);
                is("told", one.told(0), 64 * predicate + pair);
            }
        }
        asksForFacts(laws, "tell", FollowedLaws::tell);
        FollowedLaws full = laws("a00;a01;a02;a03;a10;a11;a12;a13;a20;a21;a22");
        is("the 12th", full.tell(0, 2, 3), 12);
        refuses(full, "the 13th", STATE, made -> made.tell(0, 3, 0));
        refuses(full, "no fact, and 12 there", ARGUMENT, made -> made.tell(0, 0, 5));
        is("one that is there", full.tell(0, 0, 0), 12);
        is("states", full.count(7), 3);
    }

    private static void untell() {
        FollowedLaws laws = laws("a0x;b12;cxy");
        is("untell", laws.untell(1, 1, 2), 1);
        same("left", toldIn(laws), "a0x;cxy");
        is("untell again", laws.untell(1, 1, 2), 0);
        is("an instance is not told", laws.untell(0, 0, 0), 0);
        is("also those are saved", laws.count(7), 4);
        is("found is less, too", laws.count(6), 20);
        asksForFacts(laws, "untell", FollowedLaws::untell);
        laws.undo();
        laws.undo();
        laws.undo();
        same("undone", toldIn(laws), "a0x;b12;cxy");
    }

    private static void rule() {
        FollowedLaws laws = new FollowedLaws();
        is("the first", laws.rule(0, 255), 0);
        is("the second", laws.rule(255, 0), 1);
        is("head", laws.partOf(1, 0), 255);
        is("part", laws.partOf(1, 1), 0);
        is("no second part", laws.partOf(1, 2), NONE);
        int[] wrong = {-1, 256, Integer.MIN_VALUE, Integer.MAX_VALUE};
        for (int atom : wrong) {
            refuses(laws, "rule head " + atom, ARGUMENT, made -> made.rule(atom, 0));
            refuses(laws, "rule part " + atom, ARGUMENT, made -> made.rule(0, atom));
        }
        is("the third, alike", laws.rule(255, 0), 2);
        laws.rule(0, 0);
        laws.rule(0, 0);
        is("the sixth", laws.rule(0, 0), 5);
        refuses(laws, "the seventh", STATE, made -> made.rule(0, 0));
        refuses(laws, "wrong, and six there", ARGUMENT, made -> made.rule(0, 256));
        is("saved", laws.count(7), 6);
        is("undo", laws.undo(), 5);
        is("rules", laws.count(1), 5);
    }

    private static void joining() {
        FollowedLaws laws = new FollowedLaws();
        is("the first", laws.joining(1, 2, 255), 0);
        is("head", laws.partOf(0, 0), 1);
        is("one", laws.partOf(0, 1), 2);
        is("other", laws.partOf(0, 2), 255);
        int[] wrong = {-1, 256, Integer.MIN_VALUE, Integer.MAX_VALUE};
        for (int atom : wrong) {
            refuses(laws, "joining head " + atom, ARGUMENT, made -> made.joining(atom, 0, 0));
            refuses(laws, "joining one " + atom, ARGUMENT, made -> made.joining(0, atom, 0));
            refuses(laws, "joining other " + atom, ARGUMENT, made -> made.joining(0, 0, atom));
        }
        for (int k = 1; k < 6; k++) {
            is("one more", laws.joining(0, 0, 0), k);
        }
        refuses(laws, "the seventh", STATE, made -> made.joining(0, 0, 0));
        refuses(laws, "wrong, and six there", ARGUMENT, made -> made.joining(0, 0, -1));
        is("saved", laws.count(7), 6);
    }

    private static void remove() {
        FollowedLaws laws = laws("a00;b00<a00;c00<b00&b00;d00<c00");
        refuses(laws, "remove(-1)", INDEX, made -> made.remove(-1));
        refuses(laws, "remove(3)", INDEX, made -> made.remove(3));
        refuses(laws, "remove of much", INDEX, made -> made.remove(Integer.MAX_VALUE));
        refuses(laws, "remove of little", INDEX, made -> made.remove(Integer.MIN_VALUE));
        is("remove", laws.remove(0), 2);
        is("the next is number 0", laws.partOf(0, 0), 128);
        is("with its second part", laws.partOf(0, 2), 64);
        is("and the next number 1", laws.partOf(1, 0), 192);
        is("which has one part", laws.partOf(1, 2), NONE);
        refuses(laws, "partOf(2, 0)", INDEX, made -> made.partOf(2, 0));
        same("nothing follows any more", foundIn(laws), "a00");
        is("remove the last", laws.remove(1), 1);
        is("saved", laws.count(7), 3);
        laws.undo();
        laws.undo();
        same("undone", foundIn(laws), "a00;b00;c00;d00");
    }

    private static void settle() {
        FollowedLaws laws = laws("a00;a0x;bxy<a00");
        is("settle", laws.settle(), 2);
        same("told then", toldIn(laws), "a0x;bxy");
        is("found in the round 0", laws.found(1, 1), 0);
        is("by no rule", laws.found(1, 2), NONE);
        is("no rounds", laws.count(3), 0);
        is("saved", laws.count(7), 2);
        laws.undo();
        same("undone", toldIn(laws), "a00;a0x");
        is("settle of none", new FollowedLaws().settle(), 0);
        FollowedLaws twelve = laws("a00;a01;a02;a03;a10;a11;a12;a13;a20;a21;a22", "b00<a00");
        is("settle of 12", twelve.settle(), 12);
        twelve.rule(64 + 9, 64);
        is("13 are found", twelve.count(2), 13);
        refuses(twelve, "settle of 13", STATE, FollowedLaws::settle);
    }

    private static void append() {
        FollowedLaws laws = new FollowedLaws();
        is("lowest code", laws.append(33), 1);
        is("highest code", laws.append(126), 2);
        int[] wrong = {32, 127, 0, -1, 97 + 256, Integer.MIN_VALUE, Integer.MAX_VALUE};
        for (int code : wrong) {
            refuses(laws, "append(" + code + ")", ARGUMENT, made -> made.append(code));
        }
        for (int length = 3; length <= 60; length++) {
            is("append", laws.append('a'), length);
        }
        refuses(laws, "the 61st", STATE, made -> made.append('a'));
        refuses(laws, "no code, and 60 there", ARGUMENT, made -> made.append(32));
        is("nothing is saved", laws.count(7), 0);
    }

    private static void clearBuffer() {
        FollowedLaws laws = new FollowedLaws();
        type(laws, "a00;~");
        is("clearBuffer", laws.clearBuffer(), 5);
        is("again", laws.clearBuffer(), 0);
        is("nothing is saved", laws.count(7), 0);
        is("append", laws.append('b'), 1);
        is("no error", laws.firstError(), 1);
    }

    private static void firstErrorIs(String text, int want) {
        FollowedLaws laws = new FollowedLaws();
        type(laws, text);
        long ahead = laws.digest();
        is("firstError of " + text, laws.firstError(), want);
        is("it changes nothing", laws.digest() == ahead ? 1 : 0, 1);
    }

    private static void firstError() {
        String[] whole = {"", "a", "a0", "a00", "d3x", "ax3", "axx", "axy", "aww<", "azw<bwz", "a0y<b00&", "a0y<b00&c",
            "a0y<b00&cwz", "a00;", "a00;b", "a00;b0y<c11&dzz;a01", "ayx", "a0z", "aw0<b00;cxy", "az0<bw1&c2x;"};
        for (String text : whole) {
            firstErrorIs(text, text.length());
        }
        firstErrorIs("e", 0);
        firstErrorIs("A00", 0);
        firstErrorIs("`00", 0);
        firstErrorIs("0", 0);
        firstErrorIs(";", 0);
        firstErrorIs("a4", 1);
        firstErrorIs("a/", 1);
        firstErrorIs("av", 1);
        firstErrorIs("aa", 1);
        firstErrorIs("a0{", 2);
        firstErrorIs("a0;", 2);
        firstErrorIs("a000", 3);
        firstErrorIs("a0y;", 3);
        firstErrorIs("ayx;", 3);
        firstErrorIs("ay0;", 3);
        firstErrorIs("ayy;", 3);
        firstErrorIs("axz;", 3);
        firstErrorIs("aw0;", 3);
        firstErrorIs("a00&", 3);
        firstErrorIs("a00<;", 4);
        firstErrorIs("a00<e", 4);
        firstErrorIs("a00<b<", 5);
        firstErrorIs("a00<b00<", 7);
        firstErrorIs("a00<b00&c00&", 11);
        firstErrorIs("a00<b00&c00<", 11);
        firstErrorIs("a00<b00&;", 8);
        firstErrorIs("a00;;", 4);
        firstErrorIs("a00;a0y;~", 7);
    }

    private static void refusesText(String text) {
        FollowedLaws laws = laws("a11");
        type(laws, text);
        refuses(laws, "read of " + text, ARGUMENT, FollowedLaws::read);
    }

    private static void read() {
        FollowedLaws laws = laws("b00");
        type(laws, "d3x;a0y<bzw&cw3;b00;axy;d3x;cxx<b00");
        is("read", laws.read(), 6);
        same("told", toldIn(laws), "axy;b00;d3x");
        is("rules", laws.count(1), 2);
        is("head", laws.partOf(0, 0), 5);
        is("one", laws.partOf(0, 1), 64 + 8 * 6 + 7);
        is("other", laws.partOf(0, 2), 128 + 8 * 7 + 3);
        is("head of the next", laws.partOf(1, 0), 128 + 36);
        is("one part alone", laws.partOf(1, 2), NONE);
        is("the buffer is cleared", laws.clearBuffer(), 0);
        is("one saved state", laws.count(7), 2);
        is("undo", laws.undo(), 1);
        same("told", toldIn(laws), "b00");
        is("no rules", laws.count(1), 0);
        is("the buffer is not restored", laws.clearBuffer(), 0);
        for (String text : new String[] {"", "a", "a0", "a0y", "ayx", "a0z", "a00;", "a00<", "a00<b", "a00<b0", "a00<b00&",
            "a00<b00&c", "a00<b00&c0", "e", "a00;b", "a00~", "a00;a0y"}) {
            refusesText(text);
        }
        FollowedLaws full = laws("a00;a01;a02;a03;a10;a11;a12;a13;a20;a21;a22");
        type(full, "a00;b00;b01");
        refuses(full, "read of a 13th", STATE, FollowedLaws::read);
        full.clearBuffer();
        type(full, "a00;b00;b00");
        is("read of a 12th", full.read(), 3);
        FollowedLaws rules = laws("a00<a00;a00<a00;a00<a00;a00<a00");
        type(rules, "b00;a00<a00;a00<a00;a00<a00");
        refuses(rules, "read of a 7th rule", STATE, FollowedLaws::read);
        rules.clearBuffer();
        type(rules, "b00;a00<a00;a00<a00");
        is("read of a 6th rule", rules.read(), 3);
        type(rules, "a00<a00;~");
        refuses(rules, "an error, and no room", ARGUMENT, FollowedLaws::read);
    }

    private static void undo() {
        FollowedLaws laws = laws("a00;b00<a00");
        type(laws, "cxy");
        laws.rule(0, 0);
        laws.joining(0, 0, 0);
        laws.remove(0);
        laws.settle();
        laws.untell(3, 3, 3);
        laws.tell(0, 0, 1);
        is("6 are saved", laws.count(7), 6);
        for (int left = 5; left >= 0; left--) {
            is("undo", laws.undo(), left);
        }
        refuses(laws, "undo", STATE, FollowedLaws::undo);
        same("the oldest was dropped", toldIn(laws), "a00");
        is("its rule is there", laws.partOf(0, 0), 64);
        is("and no other one", laws.count(1), 1);
        is("it is found again", laws.count(2), 2);
        is("the buffer stays", laws.clearBuffer(), 3);
        laws.tell(0, 1, 1);
        laws.tell(0, 1, 2);
        laws.undo();
        laws.tell(0, 1, 3);
        laws.undo();
        same("undo takes the latest", toldIn(laws), "a00;a11");
        laws.undo();
        same("and then the one from before", toldIn(laws), "a00");
        undoOfMany();
    }

    private static void undoOfMany() {
        FollowedLaws laws = new FollowedLaws();
        for (int k = 0; k < 11; k++) {
            laws.tell(k / 4, k % 4, 0);
        }
        for (int left = 5; left >= 0; left--) {
            is("undo of many", laws.undo(), left);
            is("told", laws.count(0), left + 5);
            is("the last one", laws.told(left + 4), 64 * ((left + 4) / 4) + 8 * ((left + 4) % 4));
        }
    }

    private static void told() {
        FollowedLaws laws = laws("d33;axy;a3x;ax3;axx;b00");
        same("order", toldIn(laws), "a3x;ax3;axx;axy;b00;d33");
        is("told(3)", laws.told(3), 37);
        is("told(5)", laws.told(5), 192 + 27);
        is("told(6)", laws.told(6), NONE);
        is("told of much", laws.told(Integer.MAX_VALUE), NONE);
        refuses(laws, "told(-1)", ARGUMENT, made -> made.told(-1));
        refuses(laws, "told of little", ARGUMENT, made -> made.told(Integer.MIN_VALUE));
    }

    private static void partOf() {
        FollowedLaws laws = laws("aww<b01;czy<d3x&b22");
        int[][] want = {{63, 65, NONE}, {128 + 53, 192 + 28, 64 + 18}};
        for (int rule = 0; rule < 2; rule++) {
            for (int part = 0; part < 3; part++) {
                is("partOf(" + rule + ", " + part + ")", laws.partOf(rule, part), want[rule][part]);
            }
        }
        refuses(laws, "partOf(2, 0)", INDEX, made -> made.partOf(2, 0));
        refuses(laws, "partOf(-1, 0)", INDEX, made -> made.partOf(-1, 0));
        refuses(laws, "partOf(2, 3)", INDEX, made -> made.partOf(2, 3));
        refuses(laws, "partOf of much", INDEX, made -> made.partOf(Integer.MAX_VALUE, 0));
        refuses(laws, "partOf(1, 3)", ARGUMENT, made -> made.partOf(1, 3));
        refuses(laws, "partOf(1, -1)", ARGUMENT, made -> made.partOf(1, -1));
    }

    private static void found() {
        madeAlike();
        foundByRounds();
        FollowedLaws laws = laws("a0x;a00;b1x;bxx<axy");
        int[][] want = {{4, 0, NONE, 4}, {64, 1, 0, 1}, {64 + 12, 0, NONE, 4}};
        for (int place = 0; place < 3; place++) {
            for (int what = 0; what < 4; what++) {
                is("found(" + place + ", " + what + ")", laws.found(place, what), want[place][what]);
            }
        }
        for (int what = 0; what < 4; what++) {
            int asked = what;
            is("not so many", laws.found(3, what), NONE);
            is("not nearly so many", laws.found(Integer.MAX_VALUE, what), NONE);
            refuses(laws, "found(-1, " + what + ")", ARGUMENT, made -> made.found(-1, asked));
        }
        refuses(laws, "found(0, 4)", ARGUMENT, made -> made.found(0, 4));
        refuses(laws, "found(0, -1)", ARGUMENT, made -> made.found(0, -1));
        refuses(laws, "found(9, 4)", ARGUMENT, made -> made.found(9, 4));
        is("16 instances", laws("axy").found(0, 3), 16);
        is("4 on the diagonal", laws("axx").found(0, 3), 4);
        is("4 in a column", laws("ax3").found(0, 3), 4);
    }

    private static void madeAlike() {
        finds("a01;c0x<axx", "a01");
        finds("a11;cx2<axx", "a11;c12");
        finds("axx;c00<a01", "axx");
        finds("axx;c00<a11", "axx;c00");
        finds("a0x;cxx<axx", "a0x;c00");
        finds("ax2;cxy<axy", "ax2;cx2");
        finds("ax2;cyx<axy", "ax2;c2x");
        finds("axx;cxy<axy", "axx;cxx");
        finds("axy;cxy<axy", "axy;cxy");
        finds("axy;cyx<axy", "axy;cxy");
        finds("axy;cx1<ax0", "axy;cx1");
        finds("axx;cx1<ax0", "axx;c01");
        finds("a00;cwz<a00", "a00;cxy");
        finds("a00;cww<a00", "a00;cxx");
        finds("a00;c3w<a00", "a00;c3x");
        finds("a00;cw3<a00", "a00;cx3");
        finds("axx;bxy<axx", "axx;bxy");
        // places of each fact are its own, so one fact for both parts leaves two places
        finds("a0x;cyz<axy&axz", "a0x;cxy");
        finds("axx;cxy<axz&ayw", "axx;cxy");
        finds("axx;cxz<axy&ayz", "axx;cxx");
        finds("axy;cxz<axy&ayz", "axy;cxy");
        finds("axy;bxy;cyz<axy&bzw", "axy;bxy;cxy");
        finds("axy;bxy;czw<axy&bzw", "axy;bxy;cxy");
        finds("axy;bxy;cxw<axy&byw", "axy;bxy;cxy");
        finds("axx;b01;cxy<axy&bx1", "axx;b01;c00");
        finds("axx;bx1;cxy<axy&bx1", "axx;bx1;cxx");
        finds("axx;bxx;cxz<axy&byz", "axx;bxx;cxx");
        finds("axx;b01;cxx<axy&bxy", "axx;b01");
        finds("a01;b12;cxz<axy&byz", "a01;b12;c02");
        finds("a01;b22;cxz<axy&byz", "a01;b22");
        finds("a01;cxw<axy&azw", "a01;c01");
        finds("a01;cxy<axy&bxy", "a01");
        finds("b01;cxy<axy&bxy", "b01");
    }

    private static void foundByRounds() {
        // only facts from ahead of the round are chosen, so a chain of three takes three rounds
        FollowedLaws chain = laws("a00;b00<a00;c00<b00;d00<c00");
        for (int place = 0; place < 4; place++) {
            is("round", chain.found(place, 1), place);
            is("rule", chain.found(place, 2), place - 1);
        }
        FollowedLaws lowest = laws("a00;c00<b00;d00<a00;c00<a00;c00<a00");
        is("c00 by the lower one", lowest.found(1, 2), 2);
        is("in the round 1", lowest.found(1, 1), 1);
        FollowedLaws stronger = laws("a00;b00<a00;bxx<a00;bxy<a00;b01<a00");
        same("the strongest of a round", foundIn(stronger), "a00;bxy");
        is("by its rule", stronger.found(1, 2), 2);
        FollowedLaws later = laws("a00;b00;bxx<a00;c00<bxx;d00<b00");
        same("a told one is dropped in a round", foundIn(later), "a00;bxx;c00;d00");
        is("found by the told one, too", later.found(3, 1), 1);
        FollowedLaws again = laws("a00;b0x<a00;bx0<b0x");
        same("stronger is no order of all", foundIn(again), "a00;b0x;bx0");
    }

    private static void count() {
        FollowedLaws laws = laws("a0x;a00;b1x;bxx<axy");
        int[] want = {3, 1, 3, 1, 2, 1, 9, 1};
        for (int what = 0; what <= 7; what++) {
            is("count(" + what + ")", laws.count(what), want[what]);
        }
        refuses(laws, "count(8)", ARGUMENT, made -> made.count(8));
        refuses(laws, "count(-1)", ARGUMENT, made -> made.count(-1));
        FollowedLaws pairs = laws("a00;a11;b22;c33<axy&azw;d00<bxy&axy");
        is("4 matches a round, in 2 rounds", pairs.count(4), 8);
        is("matches of the round that finds nothing", laws("a00;a00<a00").count(4), 1);
        is("which does not count", laws("a00;a00<a00").count(3), 0);
        is("no facts, no matches", laws("a00<a00").count(4), 0);
        FollowedLaws dropped = laws("a00;a0x;b00;b01;b0x<a00;b11<a00;bxx<a01");
        is("dropped", dropped.count(5), 4);
        same("left", foundIn(dropped), "a0x;b0x;bxx");
        is("a new one that is dropped at once", laws("a00;b00<a00;bxy<a00").count(5), 1);
        is("each instance once", laws("ax0;a0x;axx").count(6), 10);
        is("rounds", laws("a00;b00<a00;c00<b00;d00<c00").count(3), 3);
    }

    private static void follows() {
        FollowedLaws laws = laws("a0x;b11;bxx<b11;c00<d00");
        is("found", laws.follows(0, 0, 4), 2);
        is("an instance", laws.follows(0, 0, 3), 1);
        is("another one", laws.follows(0, 1, 0), 0);
        is("a stronger one", laws.follows(0, 4, 5), 0);
        is("found by a rule", laws.follows(1, 4, 4), 2);
        is("told, but dropped", laws.follows(1, 1, 1), 1);
        is("not on the diagonal", laws.follows(1, 1, 2), 0);
        is("no such fact", laws.follows(2, 0, 0), 0);
        FollowedLaws all = laws("axy");
        for (int pair : PAIRS) {
            is("follows from all", all.follows(0, pair / 8, pair % 8), pair == 37 ? 2 : 1);
            is("of another predicate", all.follows(1, pair / 8, pair % 8), 0);
        }
        FollowedLaws eachInstance = laws("a00;a01;a02;a03");
        is("all instances are less than a place", eachInstance.follows(0, 0, 4), 0);
        FollowedLaws row = laws("a0x");
        is("xx is no instance of 0x", row.follows(0, 4, 4), 0);
        is("x0 is none", row.follows(0, 4, 0), 0);
        asksForFacts(laws, "follows", FollowedLaws::follows);
    }

    private static void instances() {
        FollowedLaws laws = laws("a0x;ax1;a33;bxx<a33");
        is("all", laws.instances(0, 4, 5), 0b1010_0010_0010_1111);
        is("one row", laws.instances(0, 3, 4), 0b1010_0000_0000_0000);
        is("one column", laws.instances(0, 4, 0), 0b0000_0000_0000_0001);
        is("the diagonal", laws.instances(0, 4, 4), 0b1000_0000_0010_0001);
        is("one that follows", laws.instances(0, 2, 1), 1 << 9);
        is("one that does not", laws.instances(0, 2, 2), 0);
        is("found by a rule", laws.instances(1, 4, 5), 0b1000_0100_0010_0001);
        is("none", laws.instances(2, 4, 5), 0);
        is("all of all", laws("dxy").instances(3, 4, 5), 0xffff);
        asksForFacts(laws, "instances", FollowedLaws::instances);
    }

    private static void behind() {
        FollowedLaws laws = laws("a00;a0x;b00;b01;b0x<a00;c00<b02;c01<b03");
        int[] want = {3, 2, 4, 4};
        for (int round = 0; round < want.length; round++) {
            is("behind(" + round + ")", laws.behind(round), want[round]);
        }
        is("behind of much", laws.behind(Integer.MAX_VALUE), 4);
        is("behind of none", new FollowedLaws().behind(0), 0);
        refuses(laws, "behind(-1)", ARGUMENT, made -> made.behind(-1));
        refuses(laws, "behind of little", ARGUMENT, made -> made.behind(Integer.MIN_VALUE));
    }

    private static void without() {
        FollowedLaws laws = laws("a00;b00<a00;cxy<b00;c00<a00;a0x<dww");
        int[][] want = {{2, 1, 16}, {3, 1, 15}, {3, 2, 0}, {3, 2, 0}};
        long ahead = laws.digest();
        for (int rule = 0; rule < 4; rule++) {
            for (int what = 0; what < 3; what++) {
                is("without(" + rule + ", " + what + ")", laws.without(rule, what), want[rule][what]);
            }
        }
        is("nothing is changed", laws.digest() == ahead ? 1 : 0, 1);
        refuses(laws, "without(4, 0)", INDEX, made -> made.without(4, 0));
        refuses(laws, "without(-1, 0)", INDEX, made -> made.without(-1, 0));
        refuses(laws, "without(4, 3)", INDEX, made -> made.without(4, 3));
        refuses(laws, "without of much", INDEX, made -> made.without(Integer.MAX_VALUE, 0));
        refuses(laws, "without(0, 3)", ARGUMENT, made -> made.without(0, 3));
        refuses(laws, "without(0, -1)", ARGUMENT, made -> made.without(0, -1));
    }

    private static void spare() {
        FollowedLaws laws = laws("a00;a01;a0x;b11;b22;bxx<a0x;c00;d11;d11<d11");
        int[] want = {1, 1, 0, 1, 1, 0, 0, NONE};
        long ahead = laws.digest();
        for (int place = 0; place < want.length; place++) {
            is("spare(" + place + ")", laws.spare(place), want[place]);
        }
        is("nothing is changed", laws.digest() == ahead ? 1 : 0, 1);
        is("found again by a rule", laws("a00;b00;b00<a00").spare(1), 1);
        is("by a round about", laws("a00;b00;b00<a00;a00<b00").spare(0), 1);
        is("not by itself", laws("a00;b00<a00;a00<b00").spare(0), 0);
        is("not nearly so many", laws.spare(Integer.MAX_VALUE), NONE);
        refuses(laws, "spare(-1)", ARGUMENT, made -> made.spare(-1));
        refuses(laws, "spare of little", ARGUMENT, made -> made.spare(Integer.MIN_VALUE));
    }

    private static void richest() {
        FollowedLaws laws = laws("a00;bxy<a23;bxy<a30;cxx<c01;c00<d31");
        long ahead = laws.digest();
        is("richest(0)", laws.richest(0), 19);
        is("the first one that is new", laws.richest(1), 0);
        is("richest(2)", laws.richest(2), 1);
        is("richest(3)", laws.richest(3), 25);
        is("nothing is changed", laws.digest() == ahead ? 1 : 0, 1);
        is("those that are told bring nothing", laws("a00;a01").richest(0), 2);
        is("if none brings more", laws("axy").richest(0), 0);
        FollowedLaws full = laws("b00;b01;b02;b03;b10;b11;b12;b13;b20;b21;b22;b23", "cxy<a11");
        is("also with 12", full.richest(0), 9);
        is("12 stay", full.count(0), 12);
        refuses(laws, "richest(4)", ARGUMENT, made -> made.richest(4));
        refuses(laws, "richest(-1)", ARGUMENT, made -> made.richest(-1));
        refuses(laws, "richest of little", ARGUMENT, made -> made.richest(Integer.MIN_VALUE));
    }

    private static void byRules() {
        is("four of five", laws("a00;b0x<a00").byRules(), 0.8);
        is("none by rules", laws("a0x;a00;ax0;b00<c00").byRules(), 0.0);
        is("told ones each once", laws("a0x;ax0;axx;bxy<axx").byRules(), 16.0 / 26.0);
        is("a told one that a rule finds", laws("a00;b00;b00<a00;c00<a00").byRules(), 1.0 / 3.0);
        is("a told one under a stronger one", laws("a00;axy<a00").byRules(), 15.0 / 16.0);
        is("nothing there", laws("a00<b00").byRules(), 0.0);
    }

    private static void digestIs(String buffer, String... texts) {
        FollowedLaws laws = laws(texts);
        type(laws, buffer);
        long want = hash(laws, buffer);
        is("digest of " + String.join(" ", texts), laws.digest() == want ? 1 : 0, 1);
        is("it changes nothing", laws.digest() == want ? 1 : 0, 1);
    }

    private static void digest() {
        long zeros = 2833;
        for (int k = 0; k < 23; k++) {
            zeros = 31 * zeros;
        }
        is("digest of nothing", new FollowedLaws().digest() == zeros ? 1 : 0, 1);
        digestIs("", "a00");
        digestIs("a0~!", "a01;a12;a23;axz<axy&ayz;bxy<ayx");
        digestIs("", "a00;b0x<a00");
        digestIs("x", "a00;b00;c00<a00");
        digestIs("", "axy;bxy;cxy;dxx;d01<axx");
        digestIs("", "a0x;ax0;axx;bxy<axx", "c1x;dxx<c12;dw3<ayy&bzz");
        digestIs("a", "axy", "b00", "c11", "d22", "a00", "a01", "a02");
        for (int told = 1; told <= 16; told++) {
            FollowedLaws share = new FollowedLaws();
            for (int k = 0; k < Math.min(told, 12); k++) {
                share.tell(k / 4, k % 4, 0);
            }
            share.rule(128 + 37, 0);
            share.rule(192 + 36, told > 12 ? 64 : 1);
            is("bits of a share", share.digest() == hash(share, "") ? 1 : 0, 1);
        }
    }

}
