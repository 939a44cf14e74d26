import java.util.List;
import java.util.function.Consumer;
import java.util.function.Supplier;

/**
 * The two sentences behind the terms: "A method that throws an exception changes
 * nothing. If several exceptions apply, the one that is named first is thrown."
 */
public final class EdgeRefusalTest {
    private static final Check CHECK = new Check();
    private static final int[] FAR = {-1, 8, 1024, Integer.MAX_VALUE, Integer.MIN_VALUE};

    public static void main(String[] args) {
        CHECK.sentence("changes nothing: rule", EdgeRefusalTest::refusedRule);
        CHECK.sentence("changes nothing: narrow", EdgeRefusalTest::refusedNarrow);
        CHECK.sentence("changes nothing: turn", EdgeRefusalTest::refusedTurn);
        CHECK.sentence("changes nothing: move", EdgeRefusalTest::refusedMove);
        CHECK.sentence("changes nothing: drop", () -> refused(Nettle::drop));
        CHECK.sentence("changes nothing: ofRule", EdgeRefusalTest::refusedOfRule);
        CHECK.sentence("changes nothing: decides", () -> refused(Nettle::decides));
        CHECK.sentence("changes nothing: state", () -> refused(Nettle::state));
        CHECK.sentence("changes nothing: coveredBy", () -> refused(Nettle::coveredBy));
        CHECK.sentence("changes nothing: shared", EdgeRefusalTest::refusedShared);
        CHECK.sentence("changes nothing: decider", () -> refusedPackets(Nettle::decider));
        CHECK.sentence("changes nothing: ofNode", EdgeRefusalTest::refusedOfNode);
        CHECK.sentence("changes nothing: piece", EdgeRefusalTest::refusedPiece);
        CHECK.sentence("changes nothing: steps", () -> refusedPackets(Nettle::steps));
        CHECK.sentence("changes nothing: send", () -> refusedPackets(Nettle::send));
        CHECK.sentence("changes nothing: sent", EdgeRefusalTest::refusedSent);
        CHECK.sentence("changes nothing: kept", EdgeRefusalTest::refusedKept);
        CHECK.sentence("changes nothing: witness", EdgeRefusalTest::refusedWitness);
        CHECK.sentence("changes nothing: allowedWithout", () -> refused(Nettle::allowedWithout));
        CHECK.sentence("changes nothing: changedByMove", EdgeRefusalTest::refusedChangedByMove);
        CHECK.sentence("named first: rule", EdgeRefusalTest::firstOfRule);
        CHECK.sentence("named first: narrow", EdgeRefusalTest::firstOfNarrow);
        CHECK.sentence("named first: turn", EdgeRefusalTest::firstOfTurn);
        CHECK.sentence("named first: ofRule", EdgeRefusalTest::firstOfOfRule);
        CHECK.sentence("named first: ofNode", EdgeRefusalTest::firstOfOfNode);
        CHECK.sentence("named first: piece", EdgeRefusalTest::firstOfPiece);
        CHECK.sentence("named first: kept", EdgeRefusalTest::firstOfKept);
        CHECK.done("EdgeRefusalTest");
    }

    private interface OfRule {
        int make(Nettle n, int rule);
    }

    private interface OfPacket {
        int make(Nettle n, int from, int to, int port, int kind);
    }

    private static void noSuch(String what, Consumer<Nettle> call) {
        CHECK.noSuch(what + " of a used one", Walls::used, call);
        CHECK.noSuch(what + " of a full one", Walls::full, call);
    }

    private static void wrong(String what, Consumer<Nettle> call) {
        CHECK.wrong(what + " of a used one", Walls::used, call);
        CHECK.wrong(what + " of a full one", Walls::full, call);
    }

    private static void refused(OfRule call) {
        for (int rule : FAR) {
            noSuch("rule " + rule, n -> call.make(n, rule));
        }
    }

    /** The first three are VALUES, so that only the last one is looked at too late, if one is. */
    private static void refusedPackets(OfPacket call) {
        for (int far : new int[] {-1, 1024, Integer.MAX_VALUE, Integer.MIN_VALUE}) {
            wrong("FROM " + far, n -> call.make(n, far, 7, 80, 0));
            wrong("TO " + far, n -> call.make(n, 25, far, 80, 0));
            wrong("PORT " + far, n -> call.make(n, 25, 7, far, 0));
            wrong("KIND " + far, n -> call.make(n, 25, 7, 80, far));
        }
    }

    private static void refusedRule() {
        wrong("verdict 3", n -> n.rule(3));
        wrong("verdict -1", n -> n.rule(-1));
        for (int verdict = 0; verdict <= 2; verdict++) {
            int ninth = verdict;
            CHECK.refuses("a ninth one", IllegalStateException.class, Walls::full, n -> n.rule(ninth));
        }
    }

    private static void refusedNarrow() {
        refused((n, rule) -> n.narrow(rule, 0, 1, 2));
        for (int far : FAR) {
            noSuch("field " + far, n -> n.narrow(0, far, 1, 2));
        }
        wrong("a low that is one, a high that is none", n -> n.narrow(1, 0, 1, 256));
        wrong("a high that is one, a low that is none", n -> n.narrow(1, 0, -1, 1));
        wrong("both are, but the wrong way round", n -> n.narrow(1, 0, 2, 1));
    }

    private static void refusedTurn() {
        refused((n, rule) -> n.turn(rule, 2));
        wrong("verdict 3", n -> n.turn(1, 3));
        wrong("verdict -1", n -> n.turn(1, -1));
    }

    private static void refusedMove() {
        refused((n, rule) -> n.move(rule, 0));
        refused((n, rule) -> n.move(0, rule));
        refused((n, rule) -> n.move(rule, rule));
    }

    private static void refusedOfRule() {
        refused((n, rule) -> n.ofRule(rule, 0));
        wrong("what 10", n -> n.ofRule(0, 10));
        wrong("what -1", n -> n.ofRule(0, -1));
    }

    private static void refusedShared() {
        refused((n, rule) -> n.shared(rule, 0));
        refused((n, rule) -> n.shared(0, rule));
    }

    private static void refusedOfNode() {
        noSuch("node -1", n -> n.ofNode(-1, 0));
        noSuch("node 1024", n -> n.ofNode(1024, 0));
        wrong("what 3", n -> n.ofNode(0, 3));
        wrong("what -1", n -> n.ofNode(0, -1));
    }

    private static void refusedPiece() {
        noSuch("node -1", n -> n.piece(-1, 0, 0));
        noSuch("node 1024", n -> n.piece(1024, 0, 0));
        noSuch("piece -1", n -> n.piece(0, -1, 0));
        noSuch("piece 1024", n -> n.piece(0, 1024, 0));
        wrong("what 3", n -> n.piece(0, 0, 3));
        wrong("what -1", n -> n.piece(0, 0, -1));
    }

    private static void refusedSent() {
        wrong("what 5", n -> n.sent(5));
        wrong("what -1", n -> n.sent(-1));
    }

    private static void refusedKept() {
        noSuch("place 8", n -> n.kept(8, 0));
        noSuch("place -1", n -> n.kept(-1, 0));
        wrong("field 3", n -> n.kept(1, 3));
        wrong("field -1", n -> n.kept(1, -1));
    }

    private static void refusedWitness() {
        wrong("field 4", n -> n.witness(4));
        wrong("field -1", n -> n.witness(-1));
    }

    private static void refusedChangedByMove() {
        refused((n, rule) -> n.changedByMove(rule, 0));
        refused((n, rule) -> n.changedByMove(0, rule));
    }

    private static void firstOfRule() {
        for (int verdict : Walls.noNumbers(3)) {
            CHECK.wrong("verdict " + verdict + ", there are 8", Walls::full, n -> n.rule(verdict));
        }
    }

    private static void firstOfNarrow() {
        for (Supplier<Nettle> made : someWalls()) {
            CHECK.noSuch("rule and value", made, n -> n.narrow(8, 0, 0, 256));
            CHECK.noSuch("rule and order", made, n -> n.narrow(-1, 0, 2, 1));
            CHECK.noSuch("rule, field and order", made, n -> n.narrow(-1, 4, 2, 1));
        }
        CHECK.noSuch("field and value", Walls::used, n -> n.narrow(0, 4, -1, -1));
        CHECK.noSuch("field and order", Walls::used, n -> n.narrow(0, -1, 2, 1));
    }

    private static List<Supplier<Nettle>> someWalls() {
        return List.of(Nettle::new, Walls::used, Walls::full);
    }

    private static void firstOfTurn() {
        for (Supplier<Nettle> made : someWalls()) {
            CHECK.noSuch("rule too great, and verdict", made, n -> n.turn(8, 3));
            CHECK.noSuch("rule too small, and verdict", made, n -> n.turn(-1, -1));
        }
    }

    private static void firstOfOfRule() {
        for (Supplier<Nettle> made : someWalls()) {
            CHECK.noSuch("rule too great, and what", made, n -> n.ofRule(8, 10));
            CHECK.noSuch("rule too small, and what", made, n -> n.ofRule(-1, -1));
        }
    }

    private static void firstOfOfNode() {
        for (Supplier<Nettle> made : someWalls()) {
            CHECK.noSuch("node too great, and what", made, n -> n.ofNode(1024, 3));
            CHECK.noSuch("node too small, and what", made, n -> n.ofNode(-1, -1));
        }
    }

    private static void firstOfPiece() {
        for (Supplier<Nettle> made : someWalls()) {
            CHECK.noSuch("node, and what", made, n -> n.piece(1024, 0, 3));
            CHECK.noSuch("node, piece, and what", made, n -> n.piece(-1, -1, -1));
        }
        CHECK.noSuch("piece too great, and what", Walls::used, n -> n.piece(0, 1024, 3));
        CHECK.noSuch("piece too small, and what", Walls::used, n -> n.piece(0, -1, -1));
    }

    private static void firstOfKept() {
        for (Supplier<Nettle> made : someWalls()) {
            CHECK.noSuch("place too great, and field", made, n -> n.kept(8, 3));
            CHECK.noSuch("place too small, and field", made, n -> n.kept(-1, -1));
        }
    }
}
