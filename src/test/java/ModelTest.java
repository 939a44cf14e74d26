import java.util.Random;

/** Many runs of calls, drawn from a fixed start, on an object and on the model: all answers are the same. */
public final class ModelTest {
    private static final Check CHECK = new Check();
    private static final int[] SIZES = Model.SIZES;
    /** "An object is used for at most 512 calls after it has been made." */
    private static final int MOST_CALLS = 512;
    private static final int MOST_CALLS_OF_A_STEP = 4;

    private final Random random;
    private final Nettle nettle = new Nettle();
    private final Model model = new Model();
    /** RANGES begin and end at few places, so that they often touch, and the model has few blocks. */
    private final int[][] places;
    private final StringBuilder told = new StringBuilder();
    private String wrong;
    private int asked;

    private interface Call {
        double make();
    }

    private ModelTest(long seed, int placesOfField) {
        random = new Random(seed);
        places = new int[4][];
        for (int f = 0; f < 4; f++) {
            places[f] = new int[placesOfField];
            for (int i = 0; i < placesOfField; i++) {
                places[f][i] = random.nextInt(SIZES[f]);
            }
        }
    }

    public static void main(String[] args) {
        for (int seed = 0; seed < 400; seed++) {
            ModelTest test = new ModelTest(seed, 2 + seed % 4);
            CHECK.same("run " + seed, test.run(40 + seed % 80, seed % 5), "as due");
        }
        for (int seed = 1000; seed < 1012; seed++) {
            ModelTest test = new ModelTest(seed, 40);
            CHECK.same("run " + seed, test.run(16, 5), "as due");
        }
        CHECK.sentence("An object is used for at most 512 calls", ModelTest::toTheLastCall);
        CHECK.sentence("What an object answers is its own: two, asked by turns", ModelTest::sideBySide);
        CHECK.done("ModelTest");
    }

    private static void toTheLastCall() {
        for (int seed = 2000; seed < 2016; seed++) {
            ModelTest test = new ModelTest(seed, 2 + seed % 3);
            for (int i = 0; test.wrong == null && test.asked < MOST_CALLS - MOST_CALLS_OF_A_STEP; i++) {
                test.step(i % 8 == 7);
            }
            while (test.wrong == null && test.asked < MOST_CALLS - 1) {
                test.wrong = test.aQuestion();
            }
            test.step(true);
            CHECK.same("run " + seed, test.answer(), "as due");
            CHECK.same("calls of the run " + seed, test.asked, MOST_CALLS);
        }
    }

    private static void sideBySide() {
        for (int seed = 3000; seed < 3020; seed++) {
            ModelTest one = new ModelTest(seed, 3);
            ModelTest other = new ModelTest(seed + 500, 3);
            for (int i = 0; i < 100; i++) {
                one.step(i % 8 == 7);
                other.step(i % 8 == 7);
            }
            CHECK.same("the one of run " + seed, one.answer(), "as due");
            CHECK.same("the other of run " + seed, other.answer(), "as due");
        }
    }

    private String run(int calls, int firstRules) {
        for (int i = 0; i < firstRules && wrong == null; i++) {
            wrong = addNarrow();
        }
        for (int i = 0; i < calls; i++) {
            step(false);
            if (i % 4 == 3) {
                step(true);
            }
        }
        step(true);
        return answer();
    }

    /** The checksum, or another call or up to four, as long as all answers were as due. */
    private void step(boolean isDigest) {
        if (wrong == null) {
            wrong = isDigest ? compare("digest()", nettle::digest, model::digest) : oneCall();
        }
    }

    private String answer() {
        return wrong == null ? "as due" : told + "\n" + wrong;
    }

    /** Each answer as a text; a digest does not fit into a double, so it is told apart by itself. */
    private interface Whole {
        long make();
    }

    private String compare(String call, Whole got, Whole due) {
        told.append(' ').append(call);
        asked++;
        String a = answer(() -> Long.toString(got.make()));
        String b = answer(() -> Long.toString(due.make()));
        return a.equals(b) ? null : call + " answered " + a + ", due is " + b;
    }

    private String compareDouble(String call, Call got, Call due) {
        told.append(' ').append(call);
        asked++;
        String a = answer(() -> Double.toString(got.make()));
        String b = answer(() -> Double.toString(due.make()));
        return a.equals(b) ? null : call + " answered " + a + ", due is " + b;
    }

    private interface Text {
        String make();
    }

    private static String answer(Text text) {
        try {
            return text.make();
        } catch (RuntimeException e) {
            return "throws." + e.getClass().getSimpleName();
        }
    }

    /** Mostly one of those there are, now and then one that there is not. */
    private int number(int size) {
        if (random.nextInt(12) == 0) {
            return noNumber(size);
        }
        return size == 0 ? 0 : random.nextInt(size);
    }

    private int noNumber(int size) {
        int[] far = {-1, size, -1, size, size + 1, 256 + size, 65536, Integer.MAX_VALUE, Integer.MIN_VALUE};
        return far[random.nextInt(far.length)];
    }

    private int value(int field) {
        if (random.nextInt(60) == 0) {
            return noNumber(SIZES[field]);
        }
        int place = places[field][random.nextInt(places[field].length)];
        switch (random.nextInt(5)) {
            case 0:
                return 0;
            case 1:
                return SIZES[field] - 1;
            default:
                return place;
        }
    }

    private String addNarrow() {
        int verdict = random.nextInt(3);
        String wrong = compare("rule(" + verdict + ")", () -> nettle.rule(verdict), () -> model.rule(verdict));
        for (int i = random.nextInt(4); i > 0 && wrong == null; i--) {
            wrong = narrow(model.rules() - 1);
        }
        return wrong;
    }

    private String narrow(int rule) {
        int field = number(4);
        int shown = Math.max(0, Math.min(3, field));
        int one = value(shown);
        int other = value(shown);
        boolean isTurned = random.nextInt(30) == 0;
        int low = isTurned ? Math.max(one, other) : Math.min(one, other);
        int high = isTurned ? Math.min(one, other) : Math.max(one, other);
        return compare("narrow(" + rule + ", " + field + ", " + low + ", " + high + ")",
                () -> nettle.narrow(rule, field, low, high), () -> model.narrow(rule, field, low, high));
    }

    private String oneCall() {
        switch (random.nextInt(10)) {
            case 0:
            case 1:
                return narrow(number(model.rules()));
            case 2:
            case 3:
                return changeRules();
            case 4:
            case 5:
                return aPacket();
            case 6:
                return aTreeQuestion();
            case 7:
                return aCopyCall();
            default:
                return aQuestion();
        }
    }

    private String changeRules() {
        int a = number(model.rules());
        int b = number(model.rules());
        int verdict = number(3);
        boolean isAllowed = random.nextBoolean();
        switch (random.nextInt(9)) {
            case 0:
            case 1:
            case 2:
                return random.nextInt(10) == 0
                        ? compare("rule(" + verdict + ")", () -> nettle.rule(verdict), () -> model.rule(verdict))
                        : addNarrow();
            case 3:
                return compare("turn(" + a + ", " + verdict + ")",
                        () -> nettle.turn(a, verdict), () -> model.turn(a, verdict));
            case 4:
            case 5:
                return compare("move(" + a + ", " + b + ")", () -> nettle.move(a, b), () -> model.move(a, b));
            case 6:
                return compare("drop(" + a + ")", () -> nettle.drop(a), () -> model.drop(a));
            case 7:
                return compare("setLast(" + isAllowed + ")",
                        () -> nettle.setLast(isAllowed) ? 1 : 0, () -> model.setLast(isAllowed) ? 1 : 0);
            default:
                return random.nextInt(2) == 0 ? compare("shrink()", nettle::shrink, model::shrink) : null;
        }
    }

    private String aPacket() {
        int from = value(0);
        int to = value(1);
        int port = value(2);
        int kind = number(4);
        String packet = "(" + from + ", " + to + ", " + port + ", " + kind + ")";
        switch (random.nextInt(8)) {
            case 0:
                return compare("decider" + packet,
                        () -> nettle.decider(from, to, port, kind), () -> model.decider(from, to, port, kind));
            case 1:
                return compare("steps" + packet,
                        () -> nettle.steps(from, to, port, kind), () -> model.steps(from, to, port, kind));
            case 2:
                return compare("send" + packet,
                        () -> nettle.send(from, to, port, kind), () -> model.send(from, to, port, kind));
            case 3:
                return random.nextInt(5) == 0 ? compare("forget()", nettle::forget, model::forget) : null;
            default:
                return questionAndAnswer(from, to, port);
        }
    }

    private String questionAndAnswer(int from, int to, int port) {
        String packet = "(" + from + ", " + to + ", " + port + ", 0)";
        String wrong = compare("send" + packet,
                () -> nettle.send(from, to, port, 0), () -> model.send(from, to, port, 0));
        if (wrong != null || random.nextBoolean()) {
            return wrong;
        }
        return compare("send(" + to + ", " + from + ", " + port + ", 1)",
                () -> nettle.send(to, from, port, 1), () -> model.send(to, from, port, 1));
    }

    private String aTreeQuestion() {
        int nodes = model.nodes();
        int node = number(nodes);
        int what = number(3);
        int pieces = node >= 0 && node < nodes ? model.ofNode(node, 2) : 1;
        int piece = number(pieces);
        switch (random.nextInt(4)) {
            case 0:
                return compare("nodes()", nettle::nodes, model::nodes);
            case 1:
                return compareDouble("meanSteps()", nettle::meanSteps, model::meanSteps);
            case 2:
                return compare("ofNode(" + node + ", " + what + ")",
                        () -> nettle.ofNode(node, what), () -> model.ofNode(node, what));
            default:
                return compare("piece(" + node + ", " + piece + ", " + what + ")",
                        () -> nettle.piece(node, piece, what), () -> model.piece(node, piece, what));
        }
    }

    private String aCopyCall() {
        int field = number(4);
        switch (random.nextInt(4)) {
            case 0:
                return compare("copy()", nettle::copy, model::copy);
            case 1:
                return compare("changed()", nettle::changed, model::changed);
            default:
                return compare("witness(" + field + ")", () -> nettle.witness(field), () -> model.witness(field));
        }
    }

    private String aQuestion() {
        int a = number(model.rules());
        int b = number(model.rules());
        int what = number(10);
        int five = number(5);
        int place = number(model.sent(3));
        int three = number(3);
        switch (random.nextInt(12)) {
            case 0:
                return compare("rules()", nettle::rules, model::rules);
            case 1:
                return compare("ofRule(" + a + ", " + what + ")",
                        () -> nettle.ofRule(a, what), () -> model.ofRule(a, what));
            case 2:
                return compare("decides(" + a + ")", () -> nettle.decides(a), () -> model.decides(a));
            case 3:
                return compare("allowed()", nettle::allowed, model::allowed);
            case 4:
                return compare("state(" + a + ")", () -> nettle.state(a), () -> model.state(a));
            case 5:
                return compare("coveredBy(" + a + ")", () -> nettle.coveredBy(a), () -> model.coveredBy(a));
            case 6:
                return compare("shared(" + a + ", " + b + ")", () -> nettle.shared(a, b), () -> model.shared(a, b));
            case 7:
                return compare("quarrels()", nettle::quarrels, model::quarrels);
            case 8:
                return compare("sent(" + five + ")", () -> nettle.sent(five), () -> model.sent(five));
            case 9:
                return compare("kept(" + place + ", " + three + ")",
                        () -> nettle.kept(place, three), () -> model.kept(place, three));
            case 10:
                return compare("allowedWithout(" + a + ")",
                        () -> nettle.allowedWithout(a), () -> model.allowedWithout(a));
            default:
                return compare("changedByMove(" + a + ", " + b + ")",
                        () -> nettle.changedByMove(a, b), () -> model.changedByMove(a, b));
        }
    }
}
