import java.util.function.ObjIntConsumer;

/** The promises 11 to 17: each sentence that names an edge has a test of its own. */
public final class EdgeDecideTest {
    private static final Check CHECK = new Check();
    private static final int[] COUNTS = {0, 1, 5, 8};

    public static void main(String[] args) {
        CHECK.sentence("Promise 11: Returns the AMOUNT that it DECIDES", EdgeDecideTest::decides);
        CHECK.sentence("Promise 11: of a NOTE that it MEETS, and that is not DECIDED ahead of it",
                EdgeDecideTest::decidesOfNote);
        CHECK.sentence("Promise 11: Throws if there is no such RULE", () -> noSuchRule(Nettle::decides));
        CHECK.sentence("Promise 12: Returns the AMOUNT that is ALLOWED", EdgeDecideTest::allowed);
        CHECK.sentence("Promise 12: by RULES and the LAST WORD alone", EdgeDecideTest::allowedByRulesAlone);
        CHECK.sentence("Promise 13: Returns 0 if it is neither DEAD nor NEEDLESS", EdgeDecideTest::stateAlive);
        CHECK.sentence("Promise 13: DEAD: 1 if it is COVERED by a RULE with the same VERDICT",
                EdgeDecideTest::stateSame);
        CHECK.sentence("Promise 13: (by the first one that it is COVERED by)", EdgeDecideTest::stateByFirst);
        CHECK.sentence("Promise 13: 2 by one with another VERDICT", EdgeDecideTest::stateOther);
        CHECK.sentence("Promise 13: 3 if it is COVERED by none", EdgeDecideTest::stateNone);
        CHECK.sentence("Promise 13: 4 if it is NEEDLESS", EdgeDecideTest::stateNeedless);
        CHECK.sentence("Promise 13: Throws if there is no such RULE", () -> noSuchRule(Nettle::state));
        CHECK.sentence("Promise 14: Returns the first RULE that it is COVERED by", EdgeDecideTest::coveredByFirst);
        CHECK.sentence("Promise 14: -1 if there is none", EdgeDecideTest::coveredByNone);
        CHECK.sentence("Promise 14: Throws if there is no such RULE", () -> noSuchRule(Nettle::coveredBy));
        CHECK.sentence("Promise 15: Returns the AMOUNT that both MEET", EdgeDecideTest::shared);
        CHECK.sentence("Promise 15: a: a RULE, b: a RULE", EdgeDecideTest::sharedOfAnyTwo);
        CHECK.sentence("Promise 15: Throws if there is no such RULE a",
                () -> noSuchRule((n, rule) -> n.shared(rule, 0)));
        CHECK.sentence("Promise 15: Throws if there is no such RULE b",
                () -> noSuchRule((n, rule) -> n.shared(0, rule)));
        CHECK.sentence("Promise 16: Returns how many pairs of RULES stand AGAINST each other",
                EdgeDecideTest::quarrels);
        CHECK.sentence("Promise 17: Returns the RULE that DECIDES this PACKET", EdgeDecideTest::decider);
        CHECK.sentence("Promise 17: -1 for the LAST WORD", EdgeDecideTest::deciderIsLastWord);
        CHECK.sentence("Promise 17: Throws if one is no VALUE of its FIELD", EdgeDecideTest::deciderThrows);
        CHECK.done("EdgeDecideTest");
    }

    private static void noSuchRule(ObjIntConsumer<Nettle> call) {
        for (int count : COUNTS) {
            for (int rule : Walls.noNumbers(count)) {
                CHECK.noSuch("rule " + rule + " of " + count, () -> Walls.row(count), n -> call.accept(n, rule));
            }
        }
        CHECK.noSuch("one that was dropped", EdgeDecideTest::oneDropped, n -> call.accept(n, 7));
        Nettle full = Walls.full();
        call.accept(full, 0);
        call.accept(full, 7);
        CHECK.same("of eight each can be asked", full.rules(), 8);
    }

    private static Nettle oneDropped() {
        Nettle n = Walls.full();
        n.drop(3);
        return n;
    }

    private static void decides() {
        Nettle n = Walls.oneRule();
        CHECK.same("all", n.decides(0), Walls.ALL);
        Walls.addTheLast(n, Walls.DENY);
        CHECK.same("none", n.decides(1), 0);
        n.move(1, 0);
        CHECK.same("one", n.decides(0), 1);
        CHECK.same("all but one", n.decides(1), Walls.ALL - 1);
        n.turn(0, Walls.ALLOW);
        CHECK.same("whatever the verdict", n.decides(0), 1);
        Nettle stairs = new Nettle();
        Walls.addAllButTheLast(stairs, Walls.ALLOW);
        CHECK.same("all but the greatest FROM", stairs.decides(0), 255 * Walls.OF_FROM);
        CHECK.same("of the rest all but the greatest TO", stairs.decides(1), 255 * Walls.OF_PAIR);
        CHECK.same("of the rest all but the greatest PORT", stairs.decides(2), 1023 * 4);
        CHECK.same("of the rest all but the greatest KIND", stairs.decides(3), 3);
    }

    private static void decidesOfNote() {
        Nettle n = Walls.whole(Walls.NOTE, Walls.NOTE);
        CHECK.same("all", n.decides(0), Walls.ALL);
        CHECK.same("notes take nothing from each other", n.decides(1), Walls.ALL);
        Walls.addAllButTheLast(n, Walls.DENY);
        CHECK.same("nor do rules behind", n.decides(1), Walls.ALL);
        n.move(1, 5);
        CHECK.same("rules ahead do: one is left", n.decides(5), 1);
        n.narrow(5, Walls.KIND, 0, 2);
        CHECK.same("none is left", n.decides(5), 0);
        n.setLast(true);
        n.narrow(5, Walls.KIND, 3, 3);
        CHECK.same("the last word takes nothing", n.decides(5), 1);
        n.drop(1);
        CHECK.same("one of each FROM, without the rule that had FROM", n.decides(4), 256);
    }

    private static void allowed() {
        Nettle n = new Nettle();
        CHECK.same("none", n.allowed(), 0);
        n.setLast(true);
        CHECK.same("all without a rule", n.allowed(), Walls.ALL);
        n.setLast(false);
        Walls.addTheLast(n, Walls.ALLOW);
        CHECK.same("one by a rule", n.allowed(), 1);
        n.setLast(true);
        CHECK.same("all", n.allowed(), Walls.ALL);
        n.turn(0, Walls.DENY);
        CHECK.same("all but one by the last word", n.allowed(), Walls.ALL - 1);
        n.turn(0, Walls.NOTE);
        CHECK.same("a note denies none", n.allowed(), Walls.ALL);
        n.rule(Walls.DENY);
        CHECK.same("none again", n.allowed(), 0);
        n.turn(0, Walls.ALLOW);
        CHECK.same("one ahead of it", n.allowed(), 1);
        n.move(0, 1);
        CHECK.same("a dead one allows none", n.allowed(), 0);
    }

    private static void allowedByRulesAlone() {
        Nettle n = Walls.oneRule();
        n.send(1, 2, 3, 0);
        n.turn(0, Walls.DENY);
        CHECK.same("its answer is remembered", n.send(2, 1, 3, 1), 2);
        CHECK.same("but not counted", n.allowed(), 0);
    }

    private static void stateAlive() {
        Nettle n = Walls.oneRule();
        CHECK.same("the only one", n.state(0), 0);
        Walls.addTheLast(n, Walls.DENY);
        n.move(1, 0);
        CHECK.same("one packet", n.state(0), 0);
        CHECK.same("all but one", n.state(1), 0);
        n.turn(0, Walls.NOTE);
        CHECK.same("a note with one packet", n.state(0), 0);
    }

    private static void stateSame() {
        for (int verdict = 0; verdict <= 1; verdict++) {
            Nettle n = Walls.whole(verdict, verdict);
            CHECK.same("by a whole one", n.state(1), 1);
            n.narrow(0, 0, 5, 9);
            n.narrow(1, 0, 5, 9);
            CHECK.same("by the same range", n.state(1), 1);
        }
    }

    private static void stateByFirst() {
        Nettle n = new Nettle();
        Walls.add(n, Walls.ALLOW, Walls.FROM, 0, 10);
        n.rule(Walls.DENY);
        Walls.add(n, Walls.DENY, Walls.FROM, 5, 10);
        Walls.add(n, Walls.ALLOW, Walls.FROM, 5, 10);
        CHECK.same("the second one has the same verdict", n.state(2), 2);
        CHECK.same("the second one has another verdict", n.state(3), 1);
        n.narrow(0, 0, 6, 10);
        CHECK.same("the first one does not cover it any more", n.state(2), 1);
        CHECK.same("the first one does not cover it any more", n.state(3), 2);
        n.turn(0, Walls.NOTE);
        n.narrow(0, 0, 0, 255);
        CHECK.same("a note does not", n.state(2), 1);
    }

    private static void stateOther() {
        Nettle n = Walls.whole(Walls.ALLOW, Walls.DENY);
        CHECK.same("DENY by ALLOW", n.state(1), 2);
        n.turn(1, Walls.NOTE);
        CHECK.same("a note by ALLOW", n.state(1), 2);
        n.turn(0, Walls.DENY);
        CHECK.same("a note by DENY", n.state(1), 2);
        n.turn(1, Walls.ALLOW);
        CHECK.same("ALLOW by DENY", n.state(1), 2);
    }

    private static void stateNone() {
        Nettle n = new Nettle();
        Walls.add(n, Walls.ALLOW, Walls.FROM, 0, 9);
        Walls.add(n, Walls.ALLOW, Walls.FROM, 10, 19);
        Walls.add(n, Walls.ALLOW, Walls.FROM, 9, 10);
        CHECK.same("by two with the same verdict", n.state(2), 3);
        n.turn(2, Walls.DENY);
        CHECK.same("by two with another verdict", n.state(2), 3);
        n.turn(2, Walls.NOTE);
        CHECK.same("a note", n.state(2), 3);
        n.narrow(1, 0, 11, 19);
        CHECK.same("a gap between the two", n.state(2), 0);
        n.narrow(0, 0, 0, 10);
        CHECK.same("covered by one", n.state(2), 2);
    }

    private static void stateNeedless() {
        Nettle n = new Nettle();
        Walls.addTheLast(n, Walls.DENY);
        CHECK.same("DENY above the last word DENY", n.state(0), 4);
        n.turn(0, Walls.ALLOW);
        CHECK.same("ALLOW above the last word DENY", n.state(0), 0);
        n.setLast(true);
        CHECK.same("ALLOW above the last word ALLOW", n.state(0), 4);
        n.rule(Walls.DENY);
        CHECK.same("above a rule with DENY", n.state(0), 0);
        n.turn(1, Walls.ALLOW);
        CHECK.same("above a rule with ALLOW", n.state(0), 4);
        CHECK.same("that one, too", n.state(1), 4);
        n.setLast(false);
        CHECK.same("by the rule behind alone", n.state(0), 4);
        CHECK.same("not that one", n.state(1), 0);
        n.turn(0, Walls.NOTE);
        CHECK.same("a note never", n.state(0), 0);
    }

    private static void coveredByFirst() {
        Nettle n = Walls.whole(Walls.ALLOW, Walls.DENY, Walls.ALLOW);
        CHECK.same("the number 0", n.coveredBy(2), 0);
        n.narrow(0, 0, 1, 255);
        CHECK.same("the next one", n.coveredBy(2), 1);
        for (int rule = 3; rule < 8; rule++) {
            n.rule(Walls.NOTE);
        }
        CHECK.same("of eight", n.coveredBy(7), 1);
        n.move(1, 6);
        CHECK.same("ahead of the one just ahead", n.coveredBy(7), 1);
        n.narrow(1, 0, 0, 0);
        CHECK.same("the one just ahead", n.coveredBy(7), 6);
    }

    private static void coveredByNone() {
        CHECK.same("the only one", Walls.oneRule().coveredBy(0), -1);
        Nettle n = new Nettle();
        Walls.add(n, Walls.ALLOW, Walls.FROM, 0, 9);
        Walls.add(n, Walls.ALLOW, Walls.FROM, 10, 19);
        Walls.add(n, Walls.ALLOW, Walls.FROM, 9, 10);
        CHECK.same("dead, but by two together", n.coveredBy(2), -1);
        CHECK.same("the first one", Walls.full().coveredBy(0), -1);
    }

    private static void shared() {
        Nettle n = Walls.whole(Walls.ALLOW, Walls.DENY);
        CHECK.same("all", n.shared(0, 1), Walls.ALL);
        for (int field = 0; field < 4; field++) {
            int top = Walls.SIZES[field] - 1;
            n.narrow(0, field, 0, top - 1);
            n.narrow(1, field, 1, top);
            CHECK.same("what both have of field " + field, n.shared(0, 1), Walls.ALL / (top + 1) * (top - 1));
            n.narrow(1, field, top - 1, top);
            CHECK.same("one value", n.shared(0, 1), Walls.ALL / (top + 1));
            n.narrow(1, field, top, top);
            CHECK.same("none", n.shared(0, 1), 0);
            n.narrow(0, field, 0, top);
            n.narrow(1, field, 0, top);
        }
        Walls.addTheLast(n, Walls.NOTE);
        CHECK.same("one packet", n.shared(1, 2), 1);
        for (int field = 0; field < 4; field++) {
            n.narrow(0, field, 0, 0);
            n.narrow(1, field, 3, 3);
        }
        CHECK.same("apart in all four fields", n.shared(0, 1), 0);
        n.narrow(0, Walls.FROM, 3, 3);
        n.narrow(0, Walls.TO, 3, 3);
        CHECK.same("apart in two fields", n.shared(0, 1), 0);
    }

    private static void sharedOfAnyTwo() {
        Nettle n = Walls.whole(Walls.NOTE, Walls.DENY, Walls.NOTE);
        Walls.add(n, Walls.ALLOW, Walls.FROM, 250, 255);
        CHECK.same("with itself", n.shared(3, 3), 6 * Walls.OF_FROM);
        CHECK.same("a note with itself", n.shared(0, 0), Walls.ALL);
        CHECK.same("two notes", n.shared(0, 2), Walls.ALL);
        CHECK.same("the greater number first", n.shared(3, 0), 6 * Walls.OF_FROM);
        CHECK.same("a rule between them takes nothing", n.shared(0, 3), 6 * Walls.OF_FROM);
    }

    private static void quarrels() {
        CHECK.same("of none", new Nettle().quarrels(), 0);
        CHECK.same("of one", Walls.oneRule().quarrels(), 0);
        CHECK.same("a pair counts once", Walls.whole(0, 1).quarrels(), 1);
        CHECK.same("four by four", Walls.whole(0, 1, 0, 1, 0, 1, 0, 1).quarrels(), 16);
        CHECK.same("one against seven", Walls.whole(1, 1, 1, 1, 1, 1, 1, 0).quarrels(), 7);
        CHECK.same("with notes between", Walls.whole(2, 1, 2, 0, 2, 0, 2, 2).quarrels(), 2);
    }

    private static void decider() {
        Nettle n = new Nettle();
        for (int rule = 0; rule < 8; rule++) {
            Walls.add(n, rule % 2, Walls.FROM, 7 - rule, 255);
        }
        for (int from = 0; from < 8; from++) {
            CHECK.same("the first of those that meet it", n.decider(from, 255, 1023, 3), 7 - from);
        }
        for (int rule = 0; rule < 7; rule++) {
            n.turn(rule, Walls.NOTE);
            CHECK.same("notes are left out", n.decider(255, 0, 0, 0), rule + 1);
        }
        CHECK.same("none is hit: nothing was sent", Look.hits(n), "0 0 0 0 0 0 0 0");
    }

    private static void deciderIsLastWord() {
        CHECK.same("no rules", new Nettle().decider(0, 0, 0, 0), -1);
        Nettle n = Walls.row(8);
        n.setLast(true);
        CHECK.same("notes alone", n.decider(0, 0, 0, 0), -1);
        n.turn(0, Walls.DENY);
        CHECK.same("the rule 0", n.decider(0, 0, 0, 0), 0);
        CHECK.same("beside its range", n.decider(1, 0, 0, 0), -1);
    }

    private static void deciderThrows() {
        for (int field = 0; field < 4; field++) {
            for (int value : Walls.noValues(field)) {
                int[] packet = Walls.packet(field, value);
                CHECK.wrong("field " + field + ": " + value, Walls::used, n -> Walls.decider(n, packet));
                CHECK.wrong("no rules, field " + field + ": " + value, Nettle::new, n -> Walls.decider(n, packet));
            }
        }
        CHECK.same("the greatest of each", Walls.oneRule().decider(255, 255, 1023, 3), 0);
        CHECK.same("the least of each", Walls.oneRule().decider(0, 0, 0, 0), 0);
    }
}
