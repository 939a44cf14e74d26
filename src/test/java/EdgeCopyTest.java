/** The COPY and the promises 27 to 29: each sentence that names an edge has a test of its own. */
public final class EdgeCopyTest {
    private static final Check CHECK = new Check();

    public static void main(String[] args) {
        CHECK.sentence("Terms, COPY: The COPY is what RULES were, as it was made", EdgeCopyTest::staysAsItWas);
        CHECK.sentence("Terms, COPY: (without how often they were HIT)", EdgeCopyTest::withoutHits);
        CHECK.sentence("Terms, COPY: and the LAST WORD", EdgeCopyTest::withLastWord);
        CHECK.sentence("Terms, COPY: ahead of the first one there are no RULES", EdgeCopyTest::noRulesAtFirst);
        CHECK.sentence("Terms, COPY: and the LAST WORD is DENY", EdgeCopyTest::denyAtFirst);
        CHECK.sentence("Promise 27: Makes the COPY of what is now", EdgeCopyTest::copies);
        CHECK.sentence("Promise 27: Returns how many RULES it has", EdgeCopyTest::copyReturns);
        CHECK.sentence("Promise 28: Returns the AMOUNT that has another VERDICT now", EdgeCopyTest::changed);
        CHECK.sentence("Promise 28: VERDICT, not RULE", EdgeCopyTest::changedByVerdicts);
        CHECK.sentence("Promise 28: now than with the COPY, of eight RULES each", EdgeCopyTest::changedOfEightEach);
        CHECK.sentence("Promise 29: Returns that of the first PACKET", EdgeCopyTest::witness);
        CHECK.sentence("Promise 29: (by FROM, then by TO, PORT, KIND)", EdgeCopyTest::witnessInOrder);
        CHECK.sentence("Promise 29: -1 if there is none", EdgeCopyTest::noWitness);
        CHECK.sentence("Promise 29: Throws if field is not 0 to 3", EdgeCopyTest::witnessThrows);
        CHECK.done("EdgeCopyTest");
    }

    private static Nettle copied() {
        Nettle n = new Nettle();
        Walls.add(n, Walls.ALLOW, Walls.FROM, 0, 9);
        Walls.add(n, Walls.DENY, Walls.FROM, 5, 14);
        Walls.add(n, Walls.ALLOW, Walls.FROM, 10, 19);
        n.copy();
        return n;
    }

    private static void staysAsItWas() {
        Nettle n = copied();
        n.narrow(0, 0, 0, 10);
        CHECK.same("a range is set", n.changed(), Walls.OF_FROM);
        n = copied();
        n.turn(0, Walls.DENY);
        CHECK.same("a rule is turned", n.changed(), 10 * Walls.OF_FROM);
        n = copied();
        n.move(0, 1);
        CHECK.same("a rule is moved", n.changed(), 5 * Walls.OF_FROM);
        n = copied();
        n.drop(2);
        CHECK.same("the last rule is dropped", n.changed(), 5 * Walls.OF_FROM);
        n = copied();
        n.drop(0);
        CHECK.same("the first rule is dropped", n.changed(), 10 * Walls.OF_FROM);
        n = copied();
        n.rule(Walls.ALLOW);
        CHECK.same("a rule is added", n.changed(), 236 * Walls.OF_FROM);
        n = copied();
        for (int rule = 0; rule < 3; rule++) {
            n.drop(0);
        }
        CHECK.same("all are dropped", n.changed(), 15 * Walls.OF_FROM);
        n = copied();
        n.rule(Walls.DENY);
        n.copy();
        CHECK.same("a needless rule goes", n.shrink(), 1);
        n.setLast(true);
        CHECK.same("but not from the copy", n.changed(), 236 * Walls.OF_FROM);
    }

    private static void withoutHits() {
        Nettle n = copied();
        n.send(0, 0, 0, 0);
        n.send(5, 0, 0, 0);
        CHECK.same("packets change nothing of it", n.changed(), 0);
        n.copy();
        CHECK.same("nor does a copy of how often they were hit", Look.hits(n), "2 0 0");
        CHECK.same("nothing is changed", n.changed(), 0);
        n.forget();
        CHECK.same("nor by those kept", Look.witness(n), "-1 -1 -1 -1");
    }

    private static void withLastWord() {
        Nettle n = copied();
        n.setLast(true);
        CHECK.same("another one now", n.changed(), 236 * Walls.OF_FROM);
        n.copy();
        CHECK.same("it is copied", n.changed(), 0);
        n.setLast(false);
        CHECK.same("and stays as it was", n.changed(), 236 * Walls.OF_FROM);
    }

    private static void noRulesAtFirst() {
        Nettle n = new Nettle();
        CHECK.same("nothing is changed", n.changed(), 0);
        Walls.addTheLast(n, Walls.ALLOW);
        CHECK.same("one packet by a first rule", n.changed(), 1);
        n.narrow(0, Walls.FROM, 0, 0);
        CHECK.same("it is seen", Look.witness(n), "0 255 1023 3");
        n.turn(0, Walls.DENY);
        CHECK.same("by none that denies", n.changed(), 0);
    }

    private static void denyAtFirst() {
        Nettle n = new Nettle();
        n.setLast(true);
        CHECK.same("all", n.changed(), Walls.ALL);
        CHECK.same("the first one", Look.witness(n), "0 0 0 0");
        n.setLast(false);
        CHECK.same("none", n.changed(), 0);
    }

    private static void copies() {
        Nettle n = copied();
        n.turn(0, Walls.DENY);
        CHECK.same("asked before", n.changed(), 10 * Walls.OF_FROM);
        n.copy();
        CHECK.same("the second one takes the place of the first one", n.changed(), 0);
        n.turn(0, Walls.ALLOW);
        CHECK.same("it is the second one", n.changed(), 10 * Walls.OF_FROM);
        for (int rule = 0; rule < 3; rule++) {
            n.drop(0);
        }
        n.copy();
        n.setLast(true);
        CHECK.same("of no rules: nothing is left of those before", n.changed(), Walls.ALL);
        Nettle full = Walls.full();
        full.copy();
        CHECK.same("of eight", full.changed(), 0);
        full.turn(7, Walls.DENY);
        CHECK.same("the eighth one is in it", full.changed() > 0, true);
    }

    private static void copyReturns() {
        for (int count = 0; count <= 8; count++) {
            CHECK.same("notes count", Walls.row(count).copy(), count);
        }
        Nettle n = Walls.full();
        CHECK.same("eight", n.copy(), 8);
        n.drop(0);
        CHECK.same("seven", n.copy(), 7);
    }

    private static void changed() {
        Nettle n = Walls.whole(Walls.DENY);
        CHECK.same("none", n.changed(), 0);
        Walls.addTheLast(n, Walls.ALLOW);
        CHECK.same("none by a dead one", n.changed(), 0);
        n.move(1, 0);
        CHECK.same("one", n.changed(), 1);
        n.turn(1, Walls.ALLOW);
        CHECK.same("all", n.changed(), Walls.ALL);
        n.turn(0, Walls.DENY);
        CHECK.same("all but one", n.changed(), Walls.ALL - 1);
        n.copy();
        CHECK.same("none again", n.changed(), 0);
        n.narrow(0, Walls.FROM, 254, 254);
        CHECK.same("both ways", n.changed(), 2);
    }

    private static void changedByVerdicts() {
        Nettle n = copied();
        n.rule(Walls.NOTE);
        n.move(3, 0);
        CHECK.same("a note", n.changed(), 0);
        n.rule(Walls.DENY);
        CHECK.same("a rule that says what the last word said", n.changed(), 0);
        n.setLast(true);
        CHECK.same("a last word that decides nothing", n.changed(), 0);
        Walls.add(n, Walls.ALLOW, Walls.FROM, 3, 3);
        n.move(5, 0);
        CHECK.same("a rule that says what the next one said", n.changed(), 0);
    }

    /** Eight RULES that ALLOW four FROMS each, beginning with this one. */
    private static void addEight(Nettle n, int first) {
        for (int rule = 0; rule < 8; rule++) {
            Walls.add(n, Walls.ALLOW, Walls.FROM, first + 20 * rule, first + 20 * rule + 3);
        }
    }

    private static Nettle eightEach(int now, int old) {
        Nettle n = new Nettle();
        addEight(n, old);
        n.copy();
        for (int rule = 0; rule < 8; rule++) {
            n.drop(0);
        }
        addEight(n, now);
        return n;
    }

    /** No RANGE begins or ends where another one does: there are no more cuts than these. */
    private static void changedOfEightEach() {
        Nettle n = eightEach(1, 11);
        CHECK.same("all of them are others", n.changed(), 64 * Walls.OF_FROM);
        CHECK.same("the first one of those now", Look.witness(n), "1 0 0 0");
        CHECK.same("the last piece is not lost", n.piece(0, 16, 1) - n.piece(0, 16, 0), 110);
        n = eightEach(11, 1);
        CHECK.same("all of them are others, the other way round", n.changed(), 64 * Walls.OF_FROM);
        CHECK.same("the first one of the copy", Look.witness(n), "1 0 0 0");
        CHECK.same("the last piece is not lost", n.piece(0, 16, 1) - n.piece(0, 16, 0), 100);
        n.setLast(true);
        CHECK.same("and with another last word", n.changed(), (256 - 32) * Walls.OF_FROM);
    }

    private static void witness() {
        Nettle n = new Nettle();
        n.copy();
        Walls.addTheLast(n, Walls.ALLOW);
        CHECK.same("the last of all", Look.witness(n), "255 255 1023 3");
        n.rule(Walls.ALLOW);
        CHECK.same("the first of all", Look.witness(n), "0 0 0 0");
        n.copy();
        Walls.add(n, Walls.DENY, Walls.FROM, 7, 8, Walls.TO, 5, 6, Walls.PORT, 3, 4, Walls.KIND, 1, 2);
        n.move(2, 0);
        CHECK.same("the other way, in the midst", Look.witness(n), "7 5 3 1");
        Walls.add(n, Walls.ALLOW, Walls.FROM, 7, 7);
        n.move(3, 0);
        CHECK.same("behind one that is ahead of it", Look.witness(n), "8 5 3 1");
    }

    private static void witnessInOrder() {
        Nettle n = new Nettle();
        Walls.add(n, Walls.ALLOW, Walls.FROM, 9, 9, Walls.TO, 9, 9, Walls.PORT, 9, 9, Walls.KIND, 2, 2);
        Walls.add(n, Walls.ALLOW, Walls.FROM, 10, 10, Walls.TO, 0, 0, Walls.PORT, 0, 0, Walls.KIND, 0, 0);
        CHECK.same("by FROM", Look.witness(n), "9 9 9 2");
        n.narrow(1, Walls.FROM, 9, 9);
        n.narrow(1, Walls.TO, 10, 10);
        CHECK.same("then by TO", Look.witness(n), "9 9 9 2");
        n.narrow(1, Walls.TO, 8, 8);
        CHECK.same("then by TO", Look.witness(n), "9 8 0 0");
        n.narrow(1, Walls.TO, 9, 9);
        n.narrow(1, Walls.PORT, 10, 10);
        CHECK.same("then by PORT", Look.witness(n), "9 9 9 2");
        n.narrow(1, Walls.PORT, 8, 8);
        CHECK.same("then by PORT", Look.witness(n), "9 9 8 0");
        n.narrow(1, Walls.PORT, 9, 9);
        n.narrow(1, Walls.KIND, 3, 3);
        CHECK.same("then by KIND", Look.witness(n), "9 9 9 2");
        n.narrow(1, Walls.KIND, 1, 1);
        CHECK.same("then by KIND", Look.witness(n), "9 9 9 1");
    }

    private static void noWitness() {
        CHECK.same("at first", Look.witness(new Nettle()), "-1 -1 -1 -1");
        Nettle n = Walls.oneRule();
        CHECK.same("there is one", Look.witness(n), "0 0 0 0");
        n.copy();
        CHECK.same("after a copy", Look.witness(n), "-1 -1 -1 -1");
        n.setLast(true);
        n.rule(Walls.DENY);
        CHECK.same("other rules, the same verdicts", Look.witness(n), "-1 -1 -1 -1");
        Nettle wider = new Nettle();
        wider.setLast(true);
        Walls.add(wider, Walls.DENY, Walls.FROM, 0, 9, Walls.TO, 0, 99);
        Walls.add(wider, Walls.DENY, Walls.TO, 100, 255);
        CHECK.same("there is one", Look.witness(wider), "10 0 0 0");
        wider.narrow(0, Walls.FROM, 0, 255);
        CHECK.same("none any more", Look.witness(wider), "-1 -1 -1 -1");
    }

    private static void witnessThrows() {
        for (int field : Walls.noNumbers(4)) {
            CHECK.wrong("no witness, field " + field, Nettle::new, n -> n.witness(field));
            CHECK.wrong("field " + field, Walls::used, n -> n.witness(field));
        }
    }
}
