import java.util.List;
import java.util.function.Supplier;

/** The term 3 and the promises 18 to 22: each sentence that names an edge has a test of its own. */
public final class EdgeTreeTest {
    private static final Check CHECK = new Check();

    public static void main(String[] args) {
        CHECK.sentence("Terms 3: if it is empty, it leads to the LAST WORD", EdgeTreeTest::emptySet);
        CHECK.sentence("Terms 3: if the RANGES of the first RULE are WHOLE, it leads to that",
                EdgeTreeTest::firstIsWhole);
        CHECK.sentence("Terms 3: WHOLE in f and all later FIELDS", EdgeTreeTest::wholeInAllLaterFields);
        CHECK.sentence("Terms 3: (or f is 4)", EdgeTreeTest::behindTheLastField);
        CHECK.sentence("Terms 3: PIECES: the VALUES of f in order", EdgeTreeTest::valuesInOrder);
        CHECK.sentence("Terms 3: cut ahead of each low", EdgeTreeTest::cutAheadOfLow);
        CHECK.sentence("Terms 3: and behind each high", EdgeTreeTest::cutBehindHigh);
        CHECK.sentence("Terms 3: of the RULES of the set", EdgeTreeTest::cutByTheSetAlone);
        CHECK.sentence("Terms 3: each leads on, with the FIELD f + 1, and those RULES", EdgeTreeTest::leadsOn);
        CHECK.sentence("Terms 3: PIECES beside each other with the same RULES are one",
                EdgeTreeTest::piecesBesideEachOther);
        CHECK.sentence("Terms 3: NODES of the same FIELD and set are the same one", EdgeTreeTest::sameNode);
        CHECK.sentence("Terms 3: It begins with the FIELD 0 and all RULES that are no NOTES", EdgeTreeTest::beginning);
        CHECK.sentence("Terms 3: NODES are numbered from 0 as they are found", EdgeTreeTest::numbering);
        CHECK.sentence("Terms 3: one that is found again keeps its number", EdgeTreeTest::foundAgain);
        CHECK.sentence("Promise 18: Returns how many NODES it has", EdgeTreeTest::countsNodes);
        CHECK.sentence("Promise 18: it: the TREE of what is now", EdgeTreeTest::countsNodesOfNow);
        CHECK.sentence("Promise 18: however many NODES there are", EdgeTreeTest::countsVeryManyNodes);
        CHECK.sentence("Promise 19: 0 its FIELD", EdgeTreeTest::fieldOfNode);
        CHECK.sentence("Promise 19: 1 the set of its RULES (the sum of 2^k for each k in it)", EdgeTreeTest::setOfNode);
        CHECK.sentence("Promise 19: 2 how many PIECES it has", EdgeTreeTest::piecesOfNode);
        CHECK.sentence("Promise 19: Throws if there is no such NODE", EdgeTreeTest::ofNodeThrowsNode);
        CHECK.sentence("Promise 19: Throws if what is not 0 to 2", EdgeTreeTest::ofNodeThrowsWhat);
        CHECK.sentence("Promise 20: the number of a PIECE of it, from 0", EdgeTreeTest::pieceNumbers);
        CHECK.sentence("Promise 20: 0 its least VALUE, 1 its greatest one", EdgeTreeTest::pieceValues);
        CHECK.sentence("Promise 20: 2 to which NODE it leads", EdgeTreeTest::pieceLeadsToNode);
        CHECK.sentence("Promise 20: or -1 for the LAST WORD, -2 for the RULE 0, and so on",
                EdgeTreeTest::pieceLeadsToRule);
        CHECK.sentence("Promise 20: Throws if there is no such NODE", EdgeTreeTest::pieceThrowsNode);
        CHECK.sentence("Promise 20: or PIECE", EdgeTreeTest::pieceThrowsPiece);
        CHECK.sentence("Promise 20: Throws if what is not 0 to 2", EdgeTreeTest::pieceThrowsWhat);
        CHECK.sentence("Promise 21: Returns how many NODES one comes through", EdgeTreeTest::steps);
        CHECK.sentence("Promise 21: (0, if there are none)", EdgeTreeTest::noSteps);
        CHECK.sentence("Promise 21: Throws if one is no VALUE of its FIELD", EdgeTreeTest::stepsThrows);
        CHECK.sentence("Promise 22: Returns the mean of steps() of all PACKETS", EdgeTreeTest::mean);
        CHECK.sentence("Promise 22: not cut", EdgeTreeTest::meanIsNotCut);
        CHECK.done("EdgeTreeTest");
    }

    /** All NODES are as due, in their order, and there are no more. */
    private static void tree(String what, Supplier<Nettle> made, String... due) {
        CHECK.same(what + ": nodes", made.get().nodes(), due.length);
        for (int node = 0; node < Math.min(due.length, made.get().nodes()); node++) {
            CHECK.same(what + ": node " + node, Look.node(made.get(), node), due[node]);
        }
    }

    private static Nettle rules(int[]... ranges) {
        Nettle n = new Nettle();
        for (int[] ofOne : ranges) {
            Walls.add(n, Walls.ALLOW, ofOne);
        }
        return n;
    }

    private static int[] is(int... ranges) {
        return ranges;
    }

    private static void emptySet() {
        CHECK.same("no rules", new Nettle().nodes(), 0);
        CHECK.same("notes alone", Walls.row(8).nodes(), 0);
        Nettle allowing = new Nettle();
        allowing.setLast(true);
        CHECK.same("whatever the last word", allowing.nodes(), 0);
        tree("where no rule is", () -> rules(is(0, 10, 19)), "0 {1} 0..9>-1 10..19>-2 20..255>-1");
        tree("where no rule is any more", () -> rules(is(0, 10, 19, 1, 5, 255)),
                "0 {1} 0..9>-1 10..19>1 20..255>-1", "1 {1} 0..4>-1 5..255>-2");
    }

    private static void firstIsWhole() {
        CHECK.same("at the beginning", rules(is(), is(0, 10, 19), is(3, 1, 1)).nodes(), 0);
        CHECK.same("all of eight", Walls.whole(1, 0, 1, 0, 1, 0, 1, 0).nodes(), 0);
        tree("the second one alone is not enough", () -> rules(is(0, 10, 19), is()),
                "0 {3} 0..9>-3 10..19>-2 20..255>-3");
        Nettle noted = Walls.whole(Walls.NOTE);
        Walls.add(noted, Walls.DENY, Walls.FROM, 0, 9);
        CHECK.same("a note is not the first one", Look.node(noted, 0), "0 {2} 0..9>-3 10..255>-1");
    }

    /** A RULE that is narrow in one FIELD alone has a NODE for each FIELD up to that, and none behind it. */
    private static void wholeInAllLaterFields() {
        for (int narrow = 0; narrow < 4; narrow++) {
            int field = narrow;
            String[] due = new String[field + 1];
            for (int f = 0; f < field; f++) {
                due[f] = f + " {1} 0.." + (Walls.SIZES[f] - 1) + ">" + (f + 1);
            }
            due[field] = field + " {1} 0..0>-1 1.." + (Walls.SIZES[field] - 1) + ">-2";
            tree("narrow in the field " + field, () -> rules(is(field, 1, Walls.SIZES[field] - 1)), due);
        }
    }

    private static void behindTheLastField() {
        tree("the first one of those that are left", () -> rules(is(3, 1, 2), is(3, 2, 3)),
                "0 {3} 0..255>1", "1 {3} 0..255>2", "2 {3} 0..1023>3", "3 {3} 0..0>-1 1..1>-2 2..2>-2 3..3>-3");
    }

    private static Nettle mixed() {
        return rules(is(0, 10, 200, 2, 0, 99, 3, 1, 1), is(0, 50, 255, 1, 7, 7), is(1, 0, 100, 2, 50, 1023),
                is(0, 0, 49, 3, 0, 2));
    }

    private static void valuesInOrder() {
        int nodes = mixed().nodes();
        CHECK.same("a tree of many nodes", nodes > 15, true);
        for (int node = 0; node < nodes; node++) {
            Nettle n = mixed();
            int next = 0;
            for (int piece = 0; piece < n.ofNode(node, 2); piece++) {
                CHECK.same("node " + node + ": each begins behind the one before", n.piece(node, piece, 0), next);
                CHECK.same("node " + node + ": none is empty", n.piece(node, piece, 1) >= next, true);
                next = n.piece(node, piece, 1) + 1;
            }
            CHECK.same("node " + node + ": to the greatest value", next, Walls.SIZES[n.ofNode(node, 0)]);
        }
    }

    private static void cutAheadOfLow() {
        tree("in the midst", () -> rules(is(0, 10, 255)), "0 {1} 0..9>-1 10..255>-2");
        tree("the least value: none is ahead of it", () -> rules(is(0, 0, 254)), "0 {1} 0..254>-2 255..255>-1");
        tree("the least but one", () -> rules(is(0, 1, 255)), "0 {1} 0..0>-1 1..255>-2");
        tree("the greatest value", () -> rules(is(0, 255, 255)), "0 {1} 0..254>-1 255..255>-2");
        tree("two lows, one cut", () -> rules(is(0, 5, 9), is(0, 5, 255)), "0 {3} 0..4>-1 5..9>-2 10..255>-3");
    }

    private static void cutBehindHigh() {
        tree("in the midst", () -> rules(is(0, 0, 9)), "0 {1} 0..9>-2 10..255>-1");
        tree("the greatest value: none is behind it", () -> rules(is(0, 1, 255)), "0 {1} 0..0>-1 1..255>-2");
        tree("the greatest but one", () -> rules(is(0, 0, 254)), "0 {1} 0..254>-2 255..255>-1");
        tree("the least value", () -> rules(is(0, 0, 0)), "0 {1} 0..0>-2 1..255>-1");
        tree("two highs, one cut", () -> rules(is(0, 7, 9), is(0, 0, 9)), "0 {3} 0..6>-3 7..9>-2 10..255>-1");
        tree("a high and a low, one cut", () -> rules(is(0, 0, 9), is(0, 10, 19)),
                "0 {3} 0..9>-2 10..19>-3 20..255>-1");
        tree("one value", () -> rules(is(0, 9, 9)), "0 {1} 0..8>-1 9..9>-2 10..255>-1");
    }

    private static void cutByTheSetAlone() {
        Nettle noted = rules(is(0, 10, 19));
        Walls.add(noted, Walls.NOTE, Walls.FROM, 5, 15);
        CHECK.same("a note cuts nothing", Look.node(noted, 0), "0 {1} 0..9>-1 10..19>-2 20..255>-1");
        tree("a rule that is elsewhere cuts nothing", () -> rules(is(0, 10, 19, 1, 3, 4), is(0, 30, 39, 1, 1, 1)),
                "0 {3} 0..9>-1 10..19>1 20..29>-1 30..39>2 40..255>-1",
                "1 {1} 0..2>-1 3..4>-2 5..255>-1", "1 {2} 0..0>-1 1..1>-3 2..255>-1");
        tree("a dead one cuts", () -> rules(is(0, 5, 9), is(0, 7, 7)),
                "0 {3} 0..4>-1 5..6>-2 7..7>-2 8..9>-2 10..255>-1");
        Nettle copied = rules(is(0, 10, 19));
        copied.copy();
        copied.narrow(0, 0, 0, 99);
        CHECK.same("the copy cuts nothing", Look.node(copied, 0), "0 {1} 0..99>-2 100..255>-1");
    }

    private static void leadsOn() {
        tree("field by field, with fewer and fewer", () -> rules(is(0, 0, 9, 1, 0, 9, 2, 0, 9, 3, 0, 0), is(3, 1, 1)),
                "0 {3} 0..9>1 10..255>6",
                "1 {3} 0..9>2 10..255>5",
                "2 {3} 0..9>3 10..1023>4",
                "3 {3} 0..0>-2 1..1>-3 2..3>-1",
                "3 {2} 0..0>-1 1..1>-3 2..3>-1",
                "2 {2} 0..1023>4",
                "1 {2} 0..255>5");
    }

    private static void piecesBesideEachOther() {
        tree("the same rules: one", () -> rules(is(0, 10, 19, 1, 100, 109), is(1, 50, 59)),
                "0 {3} 0..9>1 10..19>2 20..255>1",
                "1 {2} 0..49>-1 50..59>-3 60..255>-1",
                "1 {3} 0..49>-1 50..59>-3 60..99>-1 100..109>-2 110..255>-1");
        tree("other rules that lead to the same: two", () -> rules(is(0, 5, 9), is(0, 5, 7)),
                "0 {3} 0..4>-1 5..7>-2 8..9>-2 10..255>-1");
        tree("the same rules, but not beside each other: two", () -> rules(is(0, 1, 1)),
                "0 {1} 0..0>-1 1..1>-2 2..255>-1");
        tree("all the same: one", () -> rules(is(1, 0, 0)), "0 {1} 0..255>1", "1 {1} 0..0>-2 1..255>-1");
    }

    private static void sameNode() {
        tree("the same field and set", () -> rules(is(0, 1, 1), is(1, 5, 255)),
                "0 {3} 0..0>1 1..1>-2 2..255>1", "1 {2} 0..4>-1 5..255>-3");
        tree("another field", () -> rules(is(2, 0, 0)),
                "0 {1} 0..255>1", "1 {1} 0..255>2", "2 {1} 0..0>-2 1..1023>-1");
        tree("each field", () -> rules(is(3, 0, 0)),
                "0 {1} 0..255>1", "1 {1} 0..255>2", "2 {1} 0..1023>3", "3 {1} 0..0>-2 1..3>-1");
        tree("another set, with the same ranges", () -> rules(is(0, 0, 0, 1, 3, 3), is(0, 1, 1, 1, 3, 3)),
                "0 {3} 0..0>1 1..1>2 2..255>-1",
                "1 {1} 0..2>-1 3..3>-2 4..255>-1", "1 {2} 0..2>-1 3..3>-3 4..255>-1");
        tree("another set that decides the same", () -> rules(is(0, 0, 1, 1, 3, 3), is(0, 1, 1, 1, 3, 3)),
                "0 {3} 0..0>1 1..1>2 2..255>-1",
                "1 {1} 0..2>-1 3..3>-2 4..255>-1", "1 {3} 0..2>-1 3..3>-2 4..255>-1");
    }

    private static void beginning() {
        Nettle n = new Nettle();
        for (int rule = 0; rule < 8; rule++) {
            Walls.add(n, rule % 2, Walls.FROM, 5, 9);
        }
        CHECK.same("the field 0", n.ofNode(0, 0), 0);
        CHECK.same("all eight, dead ones too", n.ofNode(0, 1), 255);
        n.turn(0, Walls.NOTE);
        n.turn(3, Walls.NOTE);
        CHECK.same("no notes", n.ofNode(0, 1), 255 - 1 - 8);
        Nettle kind = Walls.oneRule();
        kind.narrow(0, Walls.KIND, 3, 3);
        CHECK.same("the field 0, though it is whole in it", kind.ofNode(0, 0), 0);
    }

    private static void numbering() {
        tree("with all to which they lead, ahead of the next piece",
                () -> rules(is(0, 10, 19, 3, 0, 0), is(0, 30, 39, 1, 5, 5)),
                "0 {3} 0..9>-1 10..19>1 20..29>-1 30..39>4 40..255>-1",
                "1 {1} 0..255>2", "2 {1} 0..1023>3", "3 {1} 0..0>-2 1..3>-1",
                "1 {2} 0..4>-1 5..5>-3 6..255>-1");
        tree("piece by piece, not rule by rule", () -> rules(is(0, 30, 39, 1, 5, 5), is(0, 10, 19, 1, 6, 6)),
                "0 {3} 0..9>-1 10..19>1 20..29>-1 30..39>2 40..255>-1",
                "1 {2} 0..5>-1 6..6>-3 7..255>-1", "1 {1} 0..4>-1 5..5>-2 6..255>-1");
    }

    private static void foundAgain() {
        tree("a piece leads to a smaller one than that of its node",
                () -> rules(is(1, 9, 9, 3, 2, 2), is(0, 10, 19, 1, 3, 3)),
                "0 {3} 0..9>1 10..19>4 20..255>1",
                "1 {1} 0..8>-1 9..9>2 10..255>-1",
                "2 {1} 0..1023>3",
                "3 {1} 0..1>-1 2..2>-2 3..3>-1",
                "1 {3} 0..2>-1 3..3>-3 4..8>-1 9..9>2 10..255>-1");
    }

    private static void countsNodes() {
        CHECK.same("none", new Nettle().nodes(), 0);
        Nettle n = Walls.oneRule();
        CHECK.same("none of a whole rule", n.nodes(), 0);
        n.narrow(0, Walls.FROM, 1, 1);
        CHECK.same("one", n.nodes(), 1);
        n.narrow(0, Walls.KIND, 1, 1);
        CHECK.same("four", n.nodes(), 4);
        Walls.add(n, Walls.DENY, Walls.FROM, 2, 2, Walls.KIND, 1, 1);
        CHECK.same("three more", n.nodes(), 7);
        n.turn(0, Walls.NOTE);
        CHECK.same("without a note", n.nodes(), 4);
        n.shrink();
        CHECK.same("without a needless one", n.nodes(), 0);
        n.turn(0, Walls.ALLOW);
        n.rule(Walls.DENY);
        CHECK.same("with a whole one behind", n.nodes(), 4);
        n.move(1, 0);
        CHECK.same("with a whole one ahead", n.nodes(), 0);
        n.drop(0);
        CHECK.same("without that", n.nodes(), 4);
        Nettle eight = new Nettle();
        for (int rule = 0; rule < 8; rule++) {
            Walls.add(eight, rule % 2, Walls.FROM, rule, rule, Walls.KIND, 1, 1);
        }
        CHECK.same("of eight", eight.nodes(), 1 + 8 * 3);
    }

    /** What was asked for earlier leaves nothing behind. */
    private static void countsNodesOfNow() {
        Nettle n = rules(is(0, 0, 9, 1, 0, 99), is(1, 100, 255));
        CHECK.same("three", n.nodes(), 3);
        n.narrow(0, Walls.FROM, 0, 255);
        CHECK.same("two", n.nodes(), 2);
        CHECK.same("the first one", Look.node(n, 0), "0 {3} 0..255>1");
        CHECK.same("the second one", Look.node(n, 1), "1 {3} 0..99>-2 100..255>-3");
        CHECK.same("two steps for all", n.meanSteps(), 2.0);
        n.turn(0, Walls.NOTE);
        n.turn(1, Walls.NOTE);
        CHECK.same("none", n.nodes(), 0);
        CHECK.same("no step for any", n.meanSteps(), 0.0);
    }

    private static final int[][] MANY = {
        {57, 95, 35, 180, 178, 756, 0, 2}, {35, 194, 83, 147, 458, 537, 1, 1},
        {27, 204, 100, 112, 38, 768, 1, 2}, {93, 105, 9, 183, 48, 909, 0, 2},
        {8, 118, 104, 162, 350, 1023, 3, 3}, {77, 147, 87, 218, 296, 560, 2, 3},
        {15, 207, 109, 140, 38, 945, 1, 3}, {37, 196, 58, 154, 482, 734, 0, 2},
    };

    private static Nettle veryMany() {
        Nettle n = new Nettle();
        for (int[] ends : MANY) {
            Walls.add(n, Walls.ALLOW, 0, ends[0], ends[1], 1, ends[2], ends[3], 2, ends[4], ends[5],
                    3, ends[6], ends[7]);
        }
        return n;
    }

    private static void countsVeryManyNodes() {
        Model model = new Model();
        for (int[] ends : MANY) {
            int rule = model.rule(Walls.ALLOW);
            for (int field = 0; field < 4; field++) {
                model.narrow(rule, field, ends[2 * field], ends[2 * field + 1]);
            }
        }
        List<Model.Node> due = model.tree();
        CHECK.same("very many", due.size(), 296);
        CHECK.same("as many", veryMany().nodes(), due.size());
        CHECK.same("the mean of their steps", veryMany().meanSteps(), model.meanSteps());
        for (int node = 0; node < due.size(); node++) {
            Nettle n = veryMany();
            CHECK.same("pieces of node " + node, n.ofNode(node, 2), due.get(node).pieces.size());
            for (int piece = 0; piece < due.get(node).pieces.size(); piece++) {
                CHECK.same("node " + node + " piece " + piece,
                        n.piece(node, piece, 2), due.get(node).pieces.get(piece)[2]);
            }
        }
    }

    private static void fieldOfNode() {
        Nettle n = Walls.oneRule();
        n.narrow(0, Walls.KIND, 1, 1);
        for (int node = 0; node < 4; node++) {
            CHECK.same("node " + node, n.ofNode(node, 0), node);
        }
    }

    private static void setOfNode() {
        Nettle n = Walls.row(7);
        Walls.add(n, Walls.DENY, Walls.TO, 1, 1);
        CHECK.same("the greatest number alone, behind notes", n.ofNode(0, 1), 128);
        n.turn(0, Walls.DENY);
        CHECK.same("the least one, too", n.ofNode(0, 1), 129);
        CHECK.same("the greatest one, where the least one is not", n.ofNode(1, 1), 128);
        n.drop(1);
        CHECK.same("the number is less by one now", n.ofNode(0, 1), 65);
    }

    private static Nettle comb() {
        Nettle n = new Nettle();
        for (int rule = 0; rule < 8; rule++) {
            Walls.add(n, rule % 2, Walls.FROM, 30 * rule + 10, 30 * rule + 19);
        }
        return n;
    }

    private static void piecesOfNode() {
        Nettle n = Walls.oneRule();
        n.narrow(0, Walls.KIND, 1, 1);
        CHECK.same("one", n.ofNode(0, 2), 1);
        CHECK.same("three", n.ofNode(3, 2), 3);
        CHECK.same("two for each of eight rules, and one more", comb().ofNode(0, 2), 17);
        Nettle kinds = rules(is(3, 0, 0), is(3, 1, 1), is(3, 2, 2), is(3, 3, 3));
        CHECK.same("no more than values", kinds.ofNode(3, 2), 4);
    }

    private static void ofNodeThrowsNode() {
        for (int node : Walls.noNumbers(0)) {
            CHECK.noSuch("none: " + node, Nettle::new, n -> n.ofNode(node, 0));
            CHECK.noSuch("a whole rule: " + node, Walls::oneRule, n -> n.ofNode(node, 0));
        }
        for (int node : Walls.noNumbers(4)) {
            CHECK.noSuch("of four: " + node, Walls::twoByTwo, n -> n.ofNode(node, 0));
        }
        CHECK.noSuch("one that is no more", EdgeTreeTest::fewerThanBefore, n -> n.ofNode(1, 0));
        CHECK.same("the last one", Walls.twoByTwo().ofNode(3, 0), 1);
    }

    private static Nettle fewerThanBefore() {
        Nettle n = Walls.twoByTwo();
        n.nodes();
        n.drop(1);
        n.narrow(0, Walls.TO, 0, 255);
        return n;
    }

    private static void ofNodeThrowsWhat() {
        for (int what : Walls.noNumbers(3)) {
            CHECK.wrong("what " + what, Walls::twoByTwo, n -> n.ofNode(0, what));
            CHECK.wrong("what " + what + " of the last one", Walls::twoByTwo, n -> n.ofNode(3, what));
        }
    }

    private static void pieceNumbers() {
        Nettle n = comb();
        for (int piece = 0; piece < 17; piece++) {
            int low = piece == 0 ? 0 : 10 + 30 * ((piece - 1) / 2) + (piece % 2 == 1 ? 0 : 10);
            CHECK.same("piece " + piece, n.piece(0, piece, 0), low);
        }
    }

    private static void pieceValues() {
        Nettle n = Walls.oneRule();
        n.narrow(0, Walls.PORT, 1023, 1023);
        CHECK.same("the least of a whole field", n.piece(0, 0, 0), 0);
        CHECK.same("the greatest of a whole field", n.piece(0, 0, 1), 255);
        CHECK.same("the least of the first one", n.piece(2, 0, 0), 0);
        CHECK.same("the greatest of the first one", n.piece(2, 0, 1), 1022);
        CHECK.same("one value: the least", n.piece(2, 1, 0), 1023);
        CHECK.same("one value: the greatest", n.piece(2, 1, 1), 1023);
        n.narrow(0, Walls.PORT, 0, 1023);
        n.narrow(0, Walls.KIND, 0, 0);
        CHECK.same("one value: the least", n.piece(3, 0, 0), 0);
        CHECK.same("one value: the greatest", n.piece(3, 0, 1), 0);
        CHECK.same("the least of the last one", n.piece(3, 1, 0), 1);
        CHECK.same("the greatest of the last one", n.piece(3, 1, 1), 3);
    }

    private static void pieceLeadsToNode() {
        Nettle n = Walls.twoByTwo();
        CHECK.same("to the next one", n.piece(0, 0, 2), 1);
        CHECK.same("to a later one", n.piece(0, 1, 2), 3);
        CHECK.same("to the same one", n.piece(0, 2, 2), 1);
        CHECK.same("to an earlier one", n.piece(3, 1, 2), 2);
    }

    private static void pieceLeadsToRule() {
        Nettle n = comb();
        for (int piece = 0; piece < 17; piece++) {
            int due = piece % 2 == 0 ? -1 : -2 - piece / 2;
            CHECK.same("piece " + piece, n.piece(0, piece, 2), due);
        }
        n.turn(0, Walls.NOTE);
        CHECK.same("the numbers count notes", n.piece(0, 1, 2), -3);
    }

    private static void pieceThrowsNode() {
        for (int node : Walls.noNumbers(0)) {
            CHECK.noSuch("none: " + node, Nettle::new, n -> n.piece(node, 0, 0));
        }
        for (int node : Walls.noNumbers(4)) {
            CHECK.noSuch("of four: " + node, Walls::twoByTwo, n -> n.piece(node, 0, 0));
        }
        CHECK.noSuch("one that is no more", EdgeTreeTest::fewerThanBefore, n -> n.piece(1, 0, 0));
    }

    private static void pieceThrowsPiece() {
        int[] counts = {3, 3, 3, 5};
        for (int number = 0; number < 4; number++) {
            int node = number;
            for (int piece : Walls.noNumbers(counts[node])) {
                CHECK.noSuch("node " + node + ": " + piece, Walls::twoByTwo, n -> n.piece(node, piece, 0));
            }
        }
        CHECK.noSuch("a second one of a whole field", () -> rules(is(1, 3, 3)), n -> n.piece(0, 1, 0));
        CHECK.noSuch("behind seventeen", EdgeTreeTest::comb, n -> n.piece(0, 17, 0));
        CHECK.same("the last one", Walls.twoByTwo().piece(3, 4, 1), 255);
    }

    private static void pieceThrowsWhat() {
        for (int what : Walls.noNumbers(3)) {
            CHECK.wrong("what " + what, Walls::twoByTwo, n -> n.piece(0, 0, what));
            CHECK.wrong("what " + what + " of the last one", Walls::twoByTwo, n -> n.piece(3, 4, what));
        }
    }

    private static void steps() {
        Nettle n = rules(is(0, 10, 19, 1, 10, 19, 2, 10, 19, 3, 1, 1));
        CHECK.same("one, to the last word", n.steps(9, 10, 10, 1), 1);
        CHECK.same("two", n.steps(10, 20, 10, 1), 2);
        CHECK.same("three", n.steps(19, 19, 9, 1), 3);
        CHECK.same("four, to the last word", n.steps(19, 10, 19, 0), 4);
        CHECK.same("four, to a rule", n.steps(19, 10, 19, 1), 4);
        n.rule(Walls.DENY);
        CHECK.same("one, to a whole rule", n.steps(9, 10, 10, 1), 1);
        n.move(1, 0);
        CHECK.same("none", n.steps(19, 10, 19, 1), 0);
        Nettle two = Walls.twoByTwo();
        CHECK.same("through one that was found again", two.steps(10, 50, 90, 0), 3);
        CHECK.same("past it", two.steps(10, 100, 90, 0), 2);
    }

    private static void noSteps() {
        CHECK.same("no rules", new Nettle().steps(255, 255, 1023, 3), 0);
        CHECK.same("a whole rule", Walls.oneRule().steps(0, 0, 0, 0), 0);
        CHECK.same("notes alone", Walls.row(8).steps(0, 0, 0, 0), 0);
    }

    private static void stepsThrows() {
        for (int field = 0; field < 4; field++) {
            for (int value : Walls.noValues(field)) {
                int[] packet = Walls.packet(field, value);
                CHECK.wrong("field " + field + ": " + value, Walls::used, n -> Walls.steps(n, packet));
                CHECK.wrong("no nodes, field " + field + ": " + value, Nettle::new, n -> Walls.steps(n, packet));
            }
        }
        CHECK.same("the greatest of each", Walls.twoByTwo().steps(255, 255, 1023, 3), 2);
    }

    private static void mean() {
        CHECK.same("none", new Nettle().meanSteps(), 0.0);
        CHECK.same("a whole rule", Walls.oneRule().meanSteps(), 0.0);
        CHECK.same("notes alone", Walls.row(8).meanSteps(), 0.0);
        CHECK.same("one for all", rules(is(0, 0, 0)).meanSteps(), 1.0);
        CHECK.same("four for all", rules(is(3, 0, 0)).meanSteps(), 4.0);
        CHECK.same("two for half of them", rules(is(0, 0, 127, 1, 0, 0)).meanSteps(), 1.5);
    }

    private static void meanIsNotCut() {
        CHECK.same("one of 256 has one more", rules(is(0, 255, 255, 1, 0, 0)).meanSteps(), 1.00390625);
        CHECK.same("the least more that there is", rules(is(0, 9, 9, 1, 9, 9, 2, 9, 9, 3, 2, 2)).meanSteps(),
                1.0 + 1.0 / 256 + 1.0 / 65536 + 1.0 / 67108864);
        Nettle stairs = rules(is(0, 1, 255), is(1, 1, 255), is(2, 1, 1023), is(3, 0, 2));
        CHECK.same("down the stairs of four rules", stairs.meanSteps(),
                1.0 + 1.0 / 256 + 1.0 / 65536 + 1.0 / 67108864);
    }
}
