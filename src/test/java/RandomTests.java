import java.util.Random;
import java.util.function.Supplier;

/** Runs of calls chosen by a seeded generator, each answer compared with the Model's. */
public final class RandomTests {
    private static final int RUNS = 1500;
    private static final int CALLS = 512;
    private static final int[] ODD = {-1, 4, 5, 6, 7, 8, 255, 256, Integer.MIN_VALUE, Integer.MAX_VALUE,
        -256, 1 << 29, 1 << 30, 0x55555555, 0xaaaaaaab};

    private final Random random;
    private final FollowedLaws laws = new FollowedLaws();
    private final Model model = new Model();
    private final int run;
    private final StringBuilder story = new StringBuilder();
    private int wrong;
    /** How many predicates and places laws have here, and how often the dear calls come. */
    private final int predicates;
    private final int places;
    private final int dear;
    private String waiting = "";

    private RandomTests(int run) {
        this.run = run;
        random = new Random(run);
        predicates = 1 + random.nextInt(4);
        places = 30 + random.nextInt(70);
        dear = random.nextInt(4) == 0 ? 12 : 3;
    }

    public static void main(String[] args) {
        int runs = args.length > 0 ? Integer.parseInt(args[0]) : RUNS;
        int wrong = 0;
        for (int run = 0; run < runs && wrong < 5; run++) {
            wrong += new RandomTests(run).play();
        }
        System.out.println("RandomTests: " + (wrong == 0 ? "as the model, in " + runs + " runs" : "wrong"));
        if (wrong != 0) {
            System.exit(1);
        }
    }

    private int play() {
        for (int call = 0; call < CALLS && wrong == 0; call++) {
            step();
        }
        compare("digest()", laws::digest, model::digest);
        return wrong;
    }

    private static String answer(Supplier<Object> call) {
        try {
            return String.valueOf(call.get());
        } catch (RuntimeException e) {
            return "throws." + e.getClass().getSimpleName();
        }
    }

    private void compare(String name, Supplier<Object> got, Supplier<Object> want) {
        String one = answer(got);
        String other = answer(want);
        story.append(name).append(" = ").append(one).append('\n');
        if (!one.equals(other)) {
            wrong++;
            System.out.println("run " + run + ":\n" + story + "due is " + other);
        }
    }

    private int below(int bound) {
        return random.nextInt(50) == 0 ? ODD[random.nextInt(ODD.length)] : random.nextInt(bound);
    }

    private int atom() {
        if (random.nextInt(60) == 0) {
            return ODD[random.nextInt(ODD.length)];
        }
        return 64 * random.nextInt(predicates) + 8 * ruleTerm() + ruleTerm();
    }

    private int ruleTerm() {
        return random.nextInt(100) < places ? 4 + random.nextInt(4) : random.nextInt(4);
    }

    private int[] fact() {
        int first = random.nextInt(8) == 0 ? 4 : random.nextInt(4);
        int second = random.nextInt(8) == 0 ? 4 + random.nextInt(2) : random.nextInt(4);
        int[] fact = {random.nextInt(predicates), first, second};
        if (random.nextInt(40) == 0) {
            fact[random.nextInt(3)] = ODD[random.nextInt(ODD.length)];
        }
        return fact;
    }

    private String atomText() {
        return Model.text(64 * random.nextInt(predicates) + 8 * ruleTerm() + ruleTerm());
    }

    private String lawText() {
        if (random.nextInt(3) > 0) {
            int[] fact = fact();
            return Model.isFact(fact[0], fact[1], fact[2])
                    ? Model.text(64 * fact[0] + 8 * fact[1] + fact[2]) : "a0x";
        }
        return atomText() + "<" + atomText() + (random.nextBoolean() ? "&" + atomText() : "");
    }

    private String lawsText() {
        StringBuilder text = new StringBuilder(lawText());
        int more = random.nextInt(random.nextInt(6) == 0 ? 14 : 3);
        for (int k = 0; k < more; k++) {
            text.append(';').append(lawText());
        }
        if (random.nextInt(3) == 0) {
            String signs = "abcdexyzw01234<&;<&;A~!";
            int at = random.nextInt(text.length());
            text.setCharAt(at, signs.charAt(random.nextInt(signs.length())));
        }
        if (random.nextInt(6) == 0) {
            text.deleteCharAt(random.nextInt(text.length()));
        }
        return text.toString();
    }

    private void step() {
        if (!waiting.isEmpty()) {
            int code = random.nextInt(200) == 0 ? ODD[random.nextInt(ODD.length)] : waiting.charAt(0);
            waiting = waiting.substring(1);
            compare("append(" + code + ")", () -> laws.append(code), () -> model.append(code));
            if (waiting.isEmpty() || random.nextInt(20) == 0) {
                compare("firstError()", laws::firstError, model::firstError);
            }
            if (waiting.isEmpty() && random.nextInt(4) > 0) {
                compare("read()", laws::read, model::read);
            }
            return;
        }
        int kind = random.nextInt(100);
        if (kind < 45) {
            change(kind);
        } else if (kind < 100 - dear) {
            look();
        } else {
            suppose();
        }
    }

    private void change(int kind) {
        int[] f = fact();
        String terms = "(" + f[0] + ", " + f[1] + ", " + f[2] + ")";
        int head = atom();
        int one = atom();
        int other = atom();
        int rule = below(6);
        if (kind < 10) {
            compare("tell" + terms, () -> laws.tell(f[0], f[1], f[2]), () -> model.tell(f[0], f[1], f[2]));
        } else if (kind < 16) {
            compare("untell" + terms, () -> laws.untell(f[0], f[1], f[2]), () -> model.untell(f[0], f[1], f[2]));
        } else if (kind < 19) {
            compare("rule(" + head + ", " + one + ")", () -> laws.rule(head, one), () -> model.addRule(head, one));
        } else if (kind < 24) {
            compare("joining(" + head + ", " + one + ", " + other + ")",
                    () -> laws.joining(head, one, other), () -> model.addRule(head, one, other));
        } else if (kind < 29) {
            compare("remove(" + rule + ")", () -> laws.remove(rule), () -> model.remove(rule));
        } else if (kind < 32) {
            compare("settle()", laws::settle, model::settle);
        } else if (kind < 36) {
            waiting = lawsText();
        } else if (kind < 37) {
            compare("clearBuffer()", laws::clearBuffer, model::clearBuffer);
        } else if (kind < 38) {
            compare("read()", laws::read, model::read);
        } else {
            compare("undo()", laws::undo, model::undo);
        }
    }

    private void look() {
        int[] f = fact();
        String terms = "(" + f[0] + ", " + f[1] + ", " + f[2] + ")";
        int place = below(random.nextBoolean() ? 12 : 64);
        int what = below(4);
        int number = below(8);
        int rule = below(6);
        switch (random.nextInt(7)) {
            case 0:
                compare("told(" + place + ")", () -> laws.told(place), () -> model.told(place));
                break;
            case 1:
                compare("partOf(" + rule + ", " + what + ")",
                        () -> laws.partOf(rule, what), () -> model.partOf(rule, what));
                break;
            case 2:
                compare("found(" + place + ", " + what + ")",
                        () -> laws.found(place, what), () -> model.found(place, what));
                break;
            case 3:
                compare("count(" + number + ")", () -> laws.count(number), () -> model.count(number));
                break;
            case 4:
                compare("follows" + terms, () -> laws.follows(f[0], f[1], f[2]),
                        () -> model.follows(f[0], f[1], f[2]));
                break;
            case 5:
                compare("instances" + terms, () -> laws.instances(f[0], f[1], f[2]),
                        () -> model.instances(f[0], f[1], f[2]));
                break;
            default:
                compare("behind(" + number + ")", () -> laws.behind(number), () -> model.behind(number));
        }
    }

    private void suppose() {
        int place = below(12);
        int predicate = below(4);
        int rule = below(6);
        int what = below(3);
        switch (random.nextInt(6)) {
            case 0:
                compare("without(" + rule + ", " + what + ")",
                        () -> laws.without(rule, what), () -> model.without(rule, what));
                break;
            case 1:
            case 2:
                compare("spare(" + place + ")", () -> laws.spare(place), () -> model.spare(place));
                break;
            case 3:
                compare("richest(" + predicate + ")", () -> laws.richest(predicate), () -> model.richest(predicate));
                break;
            case 4:
                compare("byRules()", laws::byRules, model::byRules);
                break;
            default:
                compare("digest()", laws::digest, model::digest);
        }
    }
}
