import java.math.BigInteger;
import java.util.ArrayList;
import java.util.List;
import java.util.function.Supplier;

/** The promises 30 to 32: each sentence that names an edge has a test of its own. */
public final class EdgeWouldTest {
    private static final Check CHECK = new Check();
    private static final int[] COUNTS = {0, 1, 5, 8};

    public static void main(String[] args) {
        CHECK.sentence("Promise 30: Returns the AMOUNT that would be ALLOWED so without it",
                EdgeWouldTest::allowedWithout);
        CHECK.sentence("Promise 30: (nothing is changed)", EdgeWouldTest::allowedWithoutChangesNothing);
        CHECK.sentence("Promise 30: Throws if there is no such RULE", EdgeWouldTest::allowedWithoutThrows);
        CHECK.sentence("Promise 31: Returns the AMOUNT that would have another VERDICT", EdgeWouldTest::changedByMove);
        CHECK.sentence("Promise 31: if it was moved so", EdgeWouldTest::changedByMoveAsMoved);
        CHECK.sentence("Promise 31: (nothing is changed)", EdgeWouldTest::changedByMoveChangesNothing);
        CHECK.sentence("Promise 31: Throws if there is no such RULE", EdgeWouldTest::changedByMoveThrowsRule);
        CHECK.sentence("Promise 31: or number", EdgeWouldTest::changedByMoveThrowsNumber);
        CHECK.sentence("Promise 32: A number d starts with 58082", EdgeWouldTest::digestOfANewObject);
        CHECK.sentence("Promise 32: for each RULE ofRule() of 0 to 9, decides(), state()",
                EdgeWouldTest::digestOfRules);
        CHECK.sentence("Promise 32: for each of the first 20 NODES (or all)", EdgeWouldTest::digestOfNodes);
        CHECK.sentence("Promise 32: of each that is kept kept() of 0 to 2", EdgeWouldTest::digestOfKept);
        CHECK.sentence("Promise 32: changed(), witness() of 0 to 3", EdgeWouldTest::digestOfCopy);
        CHECK.sentence("Promise 32: which wraps around as a 64-bit integer", EdgeWouldTest::digestWraps);
        CHECK.sentence("Promise 32: (nothing is changed)", EdgeWouldTest::digestChangesNothing);
        CHECK.done("EdgeWouldTest");
    }

    private static void allowedWithout() {
        CHECK.same("without the only one", Walls.oneRule().allowedWithout(0), 0);
        Nettle n = Walls.whole(Walls.DENY);
        n.setLast(true);
        CHECK.same("all", n.allowedWithout(0), Walls.ALL);
        Walls.addTheLast(n, Walls.ALLOW);
        CHECK.same("without a dead one", n.allowedWithout(1), 0);
        n.move(1, 0);
        CHECK.same("without one packet", n.allowedWithout(0), 0);
        n.turn(1, Walls.NOTE);
        CHECK.same("without a note", n.allowedWithout(1), Walls.ALL);
        n.turn(0, Walls.DENY);
        CHECK.same("without a note", n.allowedWithout(1), Walls.ALL - 1);
        CHECK.same("one packet more", n.allowedWithout(0), Walls.ALL);
        Nettle eight = Walls.whole(1, 0, 0, 0, 0, 0, 0, 1);
        CHECK.same("a dead one comes to life", eight.allowedWithout(0), 0);
        CHECK.same("without the last of eight", eight.allowedWithout(7), Walls.ALL);
    }

    private static void changesNothing(Supplier<Nettle> made, int rule, int to) {
        Nettle n = made.get();
        String before = Look.through(made.get());
        if (to < 0) {
            n.allowedWithout(rule);
        } else {
            n.changedByMove(rule, to);
        }
        CHECK.same("rule " + rule + " to " + to, Look.through(n), before);
    }

    private static void allowedWithoutChangesNothing() {
        for (int rule = 0; rule < 8; rule++) {
            changesNothing(Walls::full, rule, -1);
        }
        changesNothing(Walls::oneRule, 0, -1);
    }

    private static void allowedWithoutThrows() {
        for (int number : COUNTS) {
            int count = number;
            for (int rule : Walls.noNumbers(count)) {
                CHECK.noSuch("rule " + rule + " of " + count, () -> Walls.row(count), n -> n.allowedWithout(rule));
            }
        }
        CHECK.noSuch("one that was dropped", EdgeWouldTest::oneDropped, n -> n.allowedWithout(7));
        CHECK.same("the last one", Walls.row(8).allowedWithout(7), 0);
    }

    private static Nettle oneDropped() {
        Nettle n = Walls.full();
        n.drop(3);
        return n;
    }

    private static void changedByMove() {
        Nettle n = Walls.whole(Walls.ALLOW, Walls.DENY);
        CHECK.same("all", n.changedByMove(0, 1), Walls.ALL);
        CHECK.same("all, the other way round", n.changedByMove(1, 0), Walls.ALL);
        CHECK.same("nowhere", n.changedByMove(0, 0), 0);
        Walls.addTheLast(n, Walls.DENY);
        CHECK.same("one", n.changedByMove(2, 0), 1);
        CHECK.same("none: that one is not the first", n.changedByMove(2, 1), 0);
        CHECK.same("none: the verdict is the same", n.changedByMove(1, 2), 0);
        n.turn(2, Walls.NOTE);
        CHECK.same("none by a note", n.changedByMove(2, 0), 0);
        n.move(2, 1);
        CHECK.same("none past a note", n.changedByMove(0, 1), 0);
        CHECK.same("all past a note and a rule", n.changedByMove(0, 2), Walls.ALL);
        n.setLast(true);
        CHECK.same("whatever the last word", n.changedByMove(0, 2), Walls.ALL);
        CHECK.same("one of one", Walls.oneRule().changedByMove(0, 0), 0);
    }

    private static Nettle eight() {
        Nettle n = new Nettle();
        for (int rule = 0; rule < 8; rule++) {
            Walls.add(n, rule == 5 ? Walls.NOTE : rule % 2, Walls.FROM, 10 * rule, 150 + 11 * rule,
                    Walls.TO, 0, 250 - 20 * rule, Walls.KIND, rule % 3, 3);
        }
        n.copy();
        return n;
    }

    private static void changedByMoveAsMoved() {
        for (int rule = 0; rule < 8; rule++) {
            for (int to = 0; to < 8; to++) {
                Nettle moved = eight();
                moved.move(rule, to);
                CHECK.same("rule " + rule + " to " + to, eight().changedByMove(rule, to), moved.changed());
            }
        }
    }

    private static void changedByMoveChangesNothing() {
        for (int rule = 0; rule < 8; rule++) {
            changesNothing(Walls::full, rule, 7 - rule);
        }
        changesNothing(Walls::oneRule, 0, 0);
    }

    private static void changedByMoveThrowsRule() {
        for (int number : COUNTS) {
            int count = number;
            for (int rule : Walls.noNumbers(count)) {
                CHECK.noSuch("rule " + rule + " of " + count, () -> Walls.row(count), n -> n.changedByMove(rule, 0));
            }
        }
        CHECK.noSuch("one that was dropped", EdgeWouldTest::oneDropped, n -> n.changedByMove(7, 0));
    }

    private static void changedByMoveThrowsNumber() {
        for (int number : COUNTS) {
            int count = number;
            for (int to : Walls.noNumbers(count)) {
                CHECK.noSuch("to " + to + " of " + count, () -> Walls.row(count), n -> n.changedByMove(0, to));
            }
        }
        CHECK.noSuch("behind the last one", Walls::full, n -> n.changedByMove(7, 8));
        CHECK.same("the last number", Walls.row(8).changedByMove(0, 7), 0);
    }

    private static long digestOf(int... numbers) {
        long d = 58082L;
        for (int x : numbers) {
            d = d * 31L + x;
        }
        return d;
    }

    private static void digestOfANewObject() {
        CHECK.same("no rules, allowed, quarrels, nodes; five sent; changed; four of no witness", new Nettle().digest(),
                digestOf(0, 0, 0, 0, 0, 0, 0, 0, 0, 0, -1, -1, -1, -1));
        Nettle allowing = new Nettle();
        allowing.setLast(true);
        CHECK.same("the last word ALLOW", allowing.digest(),
                digestOf(0, Walls.ALL, 0, 0, 0, 0, 0, 0, 0, Walls.ALL, 0, 0, 0, 0));
    }

    private static void digestOfRules() {
        Nettle n = Walls.whole(Walls.NOTE, Walls.ALLOW, Walls.DENY);
        n.send(7, 8, 9, 3);
        CHECK.same("three whole ones", n.digest(), digestOf(3,
                2, 0, 255, 0, 255, 0, 1023, 0, 3, 1, Walls.ALL, 0, -1, Walls.ALL,
                1, 0, 255, 0, 255, 0, 1023, 0, 3, 1, Walls.ALL, 0, -1, 0,
                0, 0, 255, 0, 255, 0, 1023, 0, 3, 0, 0, 2, 1, Walls.ALL,
                Walls.ALL, 1, 0, 1, 1, 0, 0, 0, Walls.ALL, 0, 0, 0, 0));
        Nettle one = new Nettle();
        Walls.add(one, Walls.ALLOW, Walls.FROM, 16, 31);
        int amount = 16 * Walls.OF_FROM;
        CHECK.same("a narrow one, with a tree", one.digest(), digestOf(1,
                1, 16, 31, 0, 255, 0, 1023, 0, 3, 0, amount, 0, -1, 0,
                amount, 0, 1, 0, 1, 3, 0, 15, -1, 16, 31, -2, 32, 255, -1,
                0, 0, 0, 0, 0, amount, 16, 0, 0, 0));
    }

    /** A TREE of 1 + 3 * fans NODES, and one or two more. */
    private static Nettle fan(int fans, int more) {
        Nettle n = new Nettle();
        for (int rule = 0; rule < fans; rule++) {
            Walls.add(n, rule % 2, Walls.FROM, 30 * rule, 30 * rule + 9, Walls.KIND, 1, 2);
        }
        if (more > 0) {
            Walls.add(n, Walls.ALLOW, Walls.FROM, 240, 249, more == 1 ? Walls.TO : Walls.PORT, 5, 6);
        }
        return n;
    }

    private static void digestOfNodes() {
        int[][] trees = {{1, 0, 4}, {6, 0, 19}, {6, 1, 20}, {6, 2, 21}, {7, 0, 22}, {8, 0, 25}};
        for (int[] tree : trees) {
            Supplier<Nettle> made = () -> fan(tree[0], tree[1]);
            CHECK.same("nodes", made.get().nodes(), tree[2]);
            CHECK.same("digest of " + tree[2], made.get().digest(), wrapped(told(made)));
        }
    }

    private static void digestOfKept() {
        Nettle n = new Nettle();
        n.setLast(true);
        n.send(1, 2, 3, 0);
        n.send(255, 254, 1023, 0);
        n.send(2, 1, 3, 1);
        n.setLast(false);
        CHECK.same("two", n.digest(),
                digestOf(0, 0, 0, 0, 3, 3, 1, 2, 2, 1, 2, 3, 255, 254, 1023, 0, -1, -1, -1, -1));
        n.forget();
        CHECK.same("none", n.digest(), digestOf(0, 0, 0, 0, 3, 3, 1, 0, 2, 0, -1, -1, -1, -1));
        CHECK.same("eight", Walls.full().digest(), wrapped(told(Walls::full)));
    }

    private static void digestOfCopy() {
        Nettle n = new Nettle();
        Walls.addTheLast(n, Walls.ALLOW);
        n.copy();
        n.drop(0);
        CHECK.same("one packet", n.digest(), digestOf(0, 0, 0, 0, 0, 0, 0, 0, 0, 1, 255, 255, 1023, 3));
        CHECK.same("of a used one", Walls.used().digest(), wrapped(told(Walls::used)));
    }

    private static void digestWraps() {
        BigInteger exact = exact(told(Nettle::new));
        CHECK.same("even the least digest does not fit into 64 bits", exact.bitLength() > 64, true);
        for (Supplier<Nettle> made : List.<Supplier<Nettle>>of(Nettle::new, Walls::oneRule, Walls::twoByTwo,
                Walls::used, Walls::full, EdgeWouldTest::eight)) {
            CHECK.same("the last 64 bits of it", made.get().digest(), exact(told(made)).longValue());
        }
    }

    private static void digestChangesNothing() {
        for (Supplier<Nettle> made : List.<Supplier<Nettle>>of(Nettle::new, Walls::used, Walls::full)) {
            Nettle n = made.get();
            long digest = n.digest();
            CHECK.same("again", n.digest(), digest);
            CHECK.same("the copy", n.changed(), made.get().changed());
            CHECK.same("all else", Look.through(n), Look.through(made.get()));
        }
    }

    private static long wrapped(List<Integer> told) {
        return digestOf(told.stream().mapToInt(Integer::intValue).toArray());
    }

    private static BigInteger exact(List<Integer> told) {
        BigInteger d = BigInteger.valueOf(58082);
        for (int x : told) {
            d = d.multiply(BigInteger.valueOf(31)).add(BigInteger.valueOf(x));
        }
        return d;
    }

    /** The numbers of the checksum, asked one by one, each NODE of an object of its own: a TREE takes many calls. */
    private static List<Integer> told(Supplier<Nettle> made) {
        Nettle n = made.get();
        List<Integer> told = new ArrayList<>();
        told.add(n.rules());
        for (int rule = 0; rule < n.rules(); rule++) {
            for (int what = 0; what <= 9; what++) {
                told.add(n.ofRule(rule, what));
            }
            told.addAll(List.of(n.decides(rule), n.state(rule), n.coveredBy(rule), n.allowedWithout(rule)));
        }
        told.addAll(List.of(n.allowed(), n.quarrels(), n.nodes()));
        for (int node = 0; node < n.nodes() && node < 20; node++) {
            tellNode(told, made.get(), node);
        }
        for (int what = 0; what <= 4; what++) {
            told.add(n.sent(what));
        }
        for (int place = 0; place < n.sent(3); place++) {
            told.addAll(List.of(n.kept(place, 0), n.kept(place, 1), n.kept(place, 2)));
        }
        told.addAll(List.of(n.changed(), n.witness(0), n.witness(1), n.witness(2), n.witness(3)));
        return told;
    }

    private static void tellNode(List<Integer> told, Nettle n, int node) {
        told.addAll(List.of(n.ofNode(node, 0), n.ofNode(node, 1), n.ofNode(node, 2)));
        for (int piece = 0; piece < n.ofNode(node, 2); piece++) {
            told.addAll(List.of(n.piece(node, piece, 0), n.piece(node, piece, 1), n.piece(node, piece, 2)));
        }
    }
}
