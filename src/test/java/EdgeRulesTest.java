/** The promises 1 to 10: each sentence that names an edge has a test of its own. */
public final class EdgeRulesTest {
    private static final Check CHECK = new Check();
    private static final int[] COUNTS = {0, 1, 5, 8};

    public static void main(String[] args) {
        CHECK.sentence("Promise 1: Creates a compiler without RULES", EdgeRulesTest::withoutRules);
        CHECK.sentence("Promise 2: Adds a RULE behind the others", EdgeRulesTest::addsBehind);
        CHECK.sentence("Promise 2: with WHOLE RANGES", EdgeRulesTest::addsWholeRanges);
        CHECK.sentence("Promise 2: Returns its number", EdgeRulesTest::ruleReturnsNumber);
        CHECK.sentence("Promise 2: Throws if verdict is not 0 to 2", EdgeRulesTest::ruleThrowsVerdict);
        CHECK.sentence("Promise 2: Throws if there are 8", EdgeRulesTest::ruleThrowsFull);
        CHECK.sentence("Promise 3: Sets a RANGE", EdgeRulesTest::setsRange);
        CHECK.sentence("Promise 3: Returns how many VALUES the RANGE had before", EdgeRulesTest::narrowReturns);
        CHECK.sentence("Promise 3: Throws if there is no such RULE", EdgeRulesTest::narrowThrowsRule);
        CHECK.sentence("Promise 3: or FIELD", EdgeRulesTest::narrowThrowsField);
        CHECK.sentence("Promise 3: Throws if low or high is no VALUE of it", EdgeRulesTest::narrowThrowsValue);
        CHECK.sentence("Promise 3: or high is less than low", EdgeRulesTest::narrowThrowsOrder);
        CHECK.sentence("Promise 4: its VERDICT from now on", EdgeRulesTest::turns);
        CHECK.sentence("Promise 4: Returns the one before", EdgeRulesTest::turnReturns);
        CHECK.sentence("Promise 4: Throws if there is no such RULE", EdgeRulesTest::turnThrowsRule);
        CHECK.sentence("Promise 4: Throws if verdict is not 0 to 2", EdgeRulesTest::turnThrowsVerdict);
        CHECK.sentence("Promise 5: taken out, and put in so that it has another number then", EdgeRulesTest::moves);
        CHECK.sentence("Promise 5: (How often it was HIT goes with it.)", EdgeRulesTest::moveTakesHits);
        CHECK.sentence("Promise 5: Returns how many RULES have another number than before", EdgeRulesTest::moveReturns);
        CHECK.sentence("Promise 5: Throws if there is no such RULE", EdgeRulesTest::moveThrowsRule);
        CHECK.sentence("Promise 5: or number", EdgeRulesTest::moveThrowsNumber);
        CHECK.sentence("Promise 6: Takes a RULE away", EdgeRulesTest::drops);
        CHECK.sentence("Promise 6: Returns how many there are then", EdgeRulesTest::dropReturns);
        CHECK.sentence("Promise 6: Throws if there is no such RULE", EdgeRulesTest::dropThrows);
        CHECK.sentence("Promise 7: whether the LAST WORD is ALLOW from now on", EdgeRulesTest::setsLast);
        CHECK.sentence("Promise 7: Returns whether it was", EdgeRulesTest::setLastReturns);
        CHECK.sentence("Promise 8: Takes away the first RULE that is DEAD", EdgeRulesTest::shrinksFirst);
        CHECK.sentence("Promise 8: (a NOTE, too)", EdgeRulesTest::shrinksNotes);
        CHECK.sentence("Promise 8: or NEEDLESS", EdgeRulesTest::shrinksNeedless);
        CHECK.sentence("Promise 8: one by one, as all is then", EdgeRulesTest::shrinksAsAllIsThen);
        CHECK.sentence("Promise 8: as long as there is one", EdgeRulesTest::shrinksToTheEnd);
        CHECK.sentence("Promise 8: Returns how many were taken away", EdgeRulesTest::shrinkReturns);
        CHECK.sentence("Promise 9: Returns how many RULES there are", EdgeRulesTest::countsRules);
        CHECK.sentence("Promise 10: 0 its VERDICT, 1 and 2 low and high of the FIELD 0, and so on",
                EdgeRulesTest::tellsOfRule);
        CHECK.sentence("Promise 10: 9 how often it was HIT", EdgeRulesTest::tellsHits);
        CHECK.sentence("Promise 10: Throws if there is no such RULE", EdgeRulesTest::ofRuleThrowsRule);
        CHECK.sentence("Promise 10: Throws if what is not 0 to 9", EdgeRulesTest::ofRuleThrowsWhat);
        CHECK.done("EdgeRulesTest");
    }

    private static void withoutRules() {
        Nettle n = new Nettle();
        CHECK.same("none", n.rules(), 0);
        CHECK.same("none allows", n.allowed(), 0);
        CHECK.same("no tree", n.nodes(), 0);
        CHECK.same("nothing sent, nothing kept", Look.sent(n), "0 0 0 0 0");
        CHECK.same("none decides", n.decider(255, 255, 1023, 3), -1);
        CHECK.noSuch("there is no first one", Nettle::new, empty -> empty.ofRule(0, 0));
        Walls.full();
        CHECK.same("another object has its own", n.rules() + new Nettle().rules(), 0);
    }

    private static void addsBehind() {
        Nettle n = Walls.row(7);
        n.send(3, 0, 0, 0);
        CHECK.same("asked before", n.nodes(), 0);
        Walls.add(n, Walls.DENY, Walls.FROM, 9, 9);
        CHECK.same("it counts from now on", n.nodes(), 1);
        CHECK.same("the others stay as they are", Walls.order(n), "0123*4569");
        CHECK.same("its verdict", n.ofRule(7, 0), Walls.DENY);
    }

    private static void addsWholeRanges() {
        Nettle n = new Nettle();
        for (int rule = 0; rule < 8; rule++) {
            n.rule(rule % 3);
            CHECK.same("number " + rule, Look.rule(n, rule), rule % 3 + Walls.WHOLE);
        }
        Nettle again = Walls.full();
        for (int rule = 0; rule < 8; rule++) {
            again.drop(0);
        }
        for (int rule = 0; rule < 8; rule++) {
            again.rule(Walls.ALLOW);
            CHECK.same("nothing is left of those before", Look.rule(again, rule), Walls.ALLOW + Walls.WHOLE);
        }
    }

    private static void ruleReturnsNumber() {
        Nettle n = new Nettle();
        for (int rule = 0; rule < 8; rule++) {
            CHECK.same("from 0 to 7", n.rule(Walls.NOTE), rule);
        }
        n.drop(0);
        CHECK.same("the last number is free again", n.rule(Walls.NOTE), 7);
        Nettle shrunk = Walls.whole(Walls.DENY, Walls.DENY, Walls.DENY);
        shrunk.shrink();
        CHECK.same("the first number is free again", shrunk.rule(Walls.NOTE), 0);
    }

    private static void ruleThrowsVerdict() {
        for (int verdict : Walls.noNumbers(3)) {
            CHECK.wrong("a first one with " + verdict, Nettle::new, n -> n.rule(verdict));
            CHECK.wrong("one more with " + verdict, Walls::used, n -> n.rule(verdict));
        }
        CHECK.same("the least one", new Nettle().rule(0), 0);
        CHECK.same("the greatest one", new Nettle().rule(2), 0);
    }

    private static void ruleThrowsFull() {
        for (int verdict = 0; verdict <= 2; verdict++) {
            int ninth = verdict;
            CHECK.refuses("with verdict " + verdict, IllegalStateException.class, Walls::full, n -> n.rule(ninth));
            CHECK.refuses("notes count", IllegalStateException.class, () -> Walls.row(8), n -> n.rule(ninth));
        }
        CHECK.same("there are 7", Walls.row(7).rule(Walls.ALLOW), 7);
        Nettle n = Walls.row(8);
        n.drop(7);
        CHECK.same("there are 7 again", n.rule(Walls.ALLOW), 7);
    }

    private static void setsRange() {
        for (int field = 0; field < 4; field++) {
            int top = Walls.SIZES[field] - 1;
            Nettle n = Walls.whole(Walls.ALLOW, Walls.NOTE);
            for (int[] range : new int[][] {{0, 0}, {top, top}, {0, top - 1}, {1, top}, {0, top}, {1, 2}}) {
                n.narrow(0, field, range[0], range[1]);
                CHECK.same("low", n.ofRule(0, 1 + 2 * field), range[0]);
                CHECK.same("high", n.ofRule(0, 2 + 2 * field), range[1]);
            }
            int[] due = {1, 0, 255, 0, 255, 0, 1023, 0, 3, 0};
            due[1 + 2 * field] = 1;
            due[2 + 2 * field] = 2;
            for (int what = 0; what <= 9; what++) {
                CHECK.same("nothing else is set, what " + what, n.ofRule(0, what), due[what]);
            }
            CHECK.same("nor of another rule", Look.rule(n, 1), Walls.NOTE + Walls.WHOLE);
            CHECK.same("it counts", n.allowed(), Walls.ALL / Walls.SIZES[field] * 2);
            n.narrow(0, field, 3, 3);
            CHECK.same("the next one counts from now on", n.allowed(), Walls.ALL / Walls.SIZES[field]);
        }
    }

    private static void narrowReturns() {
        for (int field = 0; field < 4; field++) {
            int size = Walls.SIZES[field];
            Nettle n = Walls.oneRule();
            CHECK.same("all", n.narrow(0, field, size - 1, size - 1), size);
            CHECK.same("the greatest alone", n.narrow(0, field, 0, 0), 1);
            CHECK.same("the least alone", n.narrow(0, field, 1, size - 1), 1);
            CHECK.same("all but the least", n.narrow(0, field, 0, size - 2), size - 1);
            CHECK.same("all but the greatest", n.narrow(0, field, 1, 2), size - 1);
            CHECK.same("two", n.narrow(0, field, 1, 2), 2);
        }
    }

    private static void narrowThrowsRule() {
        for (int count : COUNTS) {
            for (int rule : Walls.noNumbers(count)) {
                CHECK.noSuch("rule " + rule + " of " + count, () -> Walls.row(count), n -> n.narrow(rule, 0, 0, 0));
            }
        }
        CHECK.noSuch("one that was dropped", EdgeRulesTest::oneDropped, n -> n.narrow(5, 0, 0, 0));
        Nettle n = Walls.row(8);
        CHECK.same("the last one", n.narrow(7, 0, 0, 0), 1);
    }

    private static Nettle oneDropped() {
        Nettle n = Walls.used();
        n.rule(Walls.NOTE);
        n.drop(0);
        return n;
    }

    private static void narrowThrowsField() {
        for (int field : Walls.noNumbers(4)) {
            CHECK.noSuch("field " + field, Walls::used, n -> n.narrow(0, field, 0, 0));
        }
        CHECK.same("the last field", Walls.oneRule().narrow(0, 3, 0, 0), 4);
    }

    private static void narrowThrowsValue() {
        for (int number = 0; number < 4; number++) {
            int field = number;
            int top = Walls.SIZES[field] - 1;
            for (int value : Walls.noValues(field)) {
                CHECK.wrong("low " + value, Walls::used, n -> n.narrow(1, field, value, top));
                CHECK.wrong("high " + value, Walls::used, n -> n.narrow(1, field, 0, value));
                CHECK.wrong("both " + value, Walls::used, n -> n.narrow(1, field, value, value));
            }
            CHECK.wrong("low below, high above", Walls::used, n -> n.narrow(1, field, -1, top + 1));
        }
        CHECK.same("256 is a PORT", Walls.oneRule().narrow(0, Walls.PORT, 256, 256), 1024);
    }

    private static void narrowThrowsOrder() {
        for (int number = 0; number < 4; number++) {
            int field = number;
            int top = Walls.SIZES[field] - 1;
            CHECK.wrong("one less", Walls::used, n -> n.narrow(1, field, 1, 0));
            CHECK.wrong("one less at the end", Walls::used, n -> n.narrow(1, field, top, top - 1));
            CHECK.wrong("far less", Walls::used, n -> n.narrow(1, field, top, 0));
            CHECK.same("not less", Walls.oneRule().narrow(0, field, top, top), top + 1);
        }
    }

    private static void turns() {
        Nettle n = new Nettle();
        Walls.add(n, Walls.NOTE, Walls.FROM, 0, 0);
        Walls.add(n, Walls.DENY, Walls.FROM, 0, 0);
        n.send(0, 0, 0, 0);
        CHECK.same("asked before", n.allowed() + n.changed(), 0);
        CHECK.same("asked before", n.ofNode(0, 1), 2);
        n.turn(0, Walls.ALLOW);
        CHECK.same("in the tree from now on", n.ofNode(0, 1), 3);
        CHECK.same("other than the copy from now on", n.changed(), Walls.OF_FROM);
        CHECK.same("a rule from now on", n.decider(0, 0, 0, 0), 0);
        CHECK.same("allowed", n.allowed(), Walls.OF_FROM);
        CHECK.same("all else stays", Look.rule(n, 0), "1 0 0 0 255 0 1023 0 3 1");
        n.turn(0, Walls.NOTE);
        CHECK.same("a note from now on", n.decider(0, 0, 0, 0), 1);
        n.turn(0, Walls.DENY);
        CHECK.same("denied", n.send(0, 0, 0, 0), 0);
        CHECK.same("the other one stays", n.ofRule(1, 0), Walls.DENY);
    }

    private static void turnReturns() {
        Nettle n = Walls.whole(Walls.NOTE);
        int before = Walls.NOTE;
        for (int verdict : new int[] {0, 0, 1, 1, 2, 2, 1, 0, 2}) {
            CHECK.same("before " + verdict, n.turn(0, verdict), before);
            before = verdict;
        }
    }

    private static void turnThrowsRule() {
        for (int count : COUNTS) {
            for (int rule : Walls.noNumbers(count)) {
                CHECK.noSuch("rule " + rule + " of " + count, () -> Walls.row(count), n -> n.turn(rule, 0));
            }
        }
        CHECK.noSuch("one that was dropped", EdgeRulesTest::oneDropped, n -> n.turn(5, 0));
        CHECK.same("the last one", Walls.row(8).turn(7, 0), Walls.NOTE);
    }

    private static void turnThrowsVerdict() {
        for (int verdict : Walls.noNumbers(3)) {
            CHECK.wrong("verdict " + verdict, Walls::used, n -> n.turn(3, verdict));
        }
    }

    private static void moves() {
        String[] due = {"0123", "1023", "1203", "1230"};
        for (int to = 0; to < 4; to++) {
            Nettle n = Walls.row(4);
            n.move(0, to);
            CHECK.same("the first one to " + to, Walls.order(n), due[to]);
        }
        String[] back = {"3012", "0312", "0132", "0123"};
        for (int to = 0; to < 4; to++) {
            Nettle n = Walls.row(4);
            n.move(3, to);
            CHECK.same("the last one to " + to, Walls.order(n), back[to]);
        }
        Nettle n = Walls.row(8);
        n.move(7, 0);
        n.move(1, 7);
        CHECK.same("of eight", Walls.order(n), "71234560");
        n.move(3, 4);
        CHECK.same("beside", Walls.order(n), "71243560");
        Nettle two = Walls.whole(Walls.ALLOW, Walls.DENY);
        CHECK.same("asked before", two.decides(0), Walls.ALL);
        two.move(1, 0);
        CHECK.same("the order counts from now on", two.allowed(), 0);
        Nettle one = Walls.row(1);
        one.move(0, 0);
        CHECK.same("the only one", Walls.order(one), "0");
    }

    private static void moveTakesHits() {
        Nettle n = Walls.row(8);
        n.send(0, 0, 0, 0);
        n.send(0, 0, 0, 0);
        n.send(5, 0, 0, 0);
        n.move(0, 7);
        CHECK.same("to the end", Look.hits(n), "0 0 0 0 1 0 0 2");
        n.move(4, 0);
        CHECK.same("to the front", Look.hits(n), "1 0 0 0 0 0 0 2");
        n.move(7, 6);
        CHECK.same("beside", Look.hits(n), "1 0 0 0 0 0 2 0");
    }

    private static void moveReturns() {
        for (int rule = 0; rule < 8; rule++) {
            for (int to = 0; to < 8; to++) {
                int due = rule == to ? 0 : Math.max(rule, to) - Math.min(rule, to) + 1;
                CHECK.same(rule + " to " + to, Walls.row(8).move(rule, to), due);
            }
        }
        CHECK.same("rules that are the same but for their numbers", Walls.whole(1, 1, 1).move(0, 2), 3);
    }

    private static void moveThrowsRule() {
        for (int count : COUNTS) {
            for (int rule : Walls.noNumbers(count)) {
                CHECK.noSuch("rule " + rule + " of " + count, () -> Walls.row(count), n -> n.move(rule, 0));
            }
        }
        CHECK.noSuch("one that was dropped", EdgeRulesTest::oneDropped, n -> n.move(5, 0));
    }

    private static void moveThrowsNumber() {
        for (int count : COUNTS) {
            for (int to : Walls.noNumbers(count)) {
                CHECK.noSuch("to " + to + " of " + count, () -> Walls.row(count), n -> n.move(0, to));
            }
        }
        CHECK.noSuch("behind the last one, which is taken out", Walls::full, n -> n.move(7, 8));
        CHECK.noSuch("neither", Walls::full, n -> n.move(8, 8));
        CHECK.same("the last number", Walls.full().move(0, 7), 8);
    }

    private static void drops() {
        Nettle n = Walls.row(8);
        n.send(6, 0, 0, 0);
        n.drop(0);
        CHECK.same("the first one", Walls.order(n), "123456*7");
        n.drop(6);
        CHECK.same("the last one", Walls.order(n), "123456*");
        n.drop(2);
        CHECK.same("one in the midst", Walls.order(n), "12456*");
        Nettle only = Walls.whole(Walls.ALLOW);
        CHECK.same("asked before", only.allowed(), Walls.ALL);
        only.drop(0);
        CHECK.same("the only one", only.allowed(), 0);
        CHECK.same("none decides any more", only.decider(0, 0, 0, 0), -1);
    }

    private static void dropReturns() {
        Nettle n = Walls.row(8);
        for (int left = 7; left >= 0; left--) {
            CHECK.same("of eight", n.drop(left / 2), left);
        }
    }

    private static void dropThrows() {
        for (int count : COUNTS) {
            for (int rule : Walls.noNumbers(count)) {
                CHECK.noSuch("rule " + rule + " of " + count, () -> Walls.row(count), n -> n.drop(rule));
            }
        }
        CHECK.noSuch("one that was dropped", EdgeRulesTest::oneDropped, n -> n.drop(5));
    }

    private static void setsLast() {
        Nettle n = new Nettle();
        CHECK.same("asked before", n.allowed() + n.changed(), 0);
        n.setLast(true);
        CHECK.same("other than the copy from now on", n.changed(), Walls.ALL);
        CHECK.same("ALLOW", n.allowed(), Walls.ALL);
        n.setLast(true);
        CHECK.same("still", n.allowed(), Walls.ALL);
        n.setLast(false);
        CHECK.same("DENY", n.allowed(), 0);
        n.rule(Walls.DENY);
        n.setLast(true);
        CHECK.same("out of sight", n.allowed(), 0);
        n.drop(0);
        CHECK.same("and back", n.allowed(), Walls.ALL);
    }

    private static void setLastReturns() {
        Nettle n = new Nettle();
        CHECK.same("at first", n.setLast(false), false);
        CHECK.same("as it was", n.setLast(true), false);
        CHECK.same("again", n.setLast(true), true);
        CHECK.same("back", n.setLast(false), true);
        CHECK.same("and still", n.setLast(false), false);
    }

    /** Of two alike the first one is NEEDLESS, the second one DEAD: each could go, the first one does. */
    private static void shrinksFirst() {
        Nettle n = new Nettle();
        Walls.add(n, Walls.ALLOW, Walls.FROM, 1, 2);
        Walls.add(n, Walls.ALLOW, Walls.FROM, 1, 2);
        n.send(1, 1, 1, 1);
        CHECK.same("the second one is dead", n.state(1), 1);
        CHECK.same("one goes", n.shrink(), 1);
        CHECK.same("the first one, which was hit", Look.hits(n), "0");
        Nettle behind = Walls.whole(Walls.ALLOW, Walls.DENY);
        behind.shrink();
        CHECK.same("a dead one behind goes", Look.rule(behind, 0), Walls.ALLOW + Walls.WHOLE);
    }

    private static void shrinksNotes() {
        Nettle n = Walls.whole(Walls.NOTE, Walls.ALLOW, Walls.NOTE);
        CHECK.same("the dead note alone", n.shrink(), 1);
        CHECK.same("the one ahead stays", n.ofRule(0, 0), Walls.NOTE);
        CHECK.same("the rule stays", n.ofRule(1, 0), Walls.ALLOW);
        Nettle byTwo = new Nettle();
        Walls.add(byTwo, Walls.ALLOW, Walls.FROM, 0, 9);
        Walls.add(byTwo, Walls.ALLOW, Walls.FROM, 10, 19);
        Walls.add(byTwo, Walls.NOTE, Walls.FROM, 5, 15);
        CHECK.same("dead by two", byTwo.shrink(), 1);
    }

    private static void shrinksNeedless() {
        Nettle n = new Nettle();
        Walls.add(n, Walls.DENY, Walls.FROM, 5, 5);
        CHECK.same("by the last word", n.shrink(), 1);
        Walls.add(n, Walls.ALLOW, Walls.FROM, 5, 5);
        Walls.add(n, Walls.ALLOW, Walls.FROM, 4, 6);
        CHECK.same("by a rule behind", n.shrink(), 1);
        CHECK.same("that one stays", n.ofRule(0, 1), 4);
        Nettle needed = Walls.whole(Walls.ALLOW);
        CHECK.same("needed", needed.shrink(), 0);
    }

    /** What is DEAD or NEEDLESS at first may be neither, once another one is gone, and the other way round. */
    private static void shrinksAsAllIsThen() {
        Nettle n = new Nettle();
        Walls.add(n, Walls.DENY, Walls.FROM, 1, 3);
        Walls.add(n, Walls.NOTE, Walls.FROM, 2, 2);
        CHECK.same("needless at first", n.state(0), 4);
        CHECK.same("dead at first", n.state(1), 2);
        CHECK.same("one goes", n.shrink(), 1);
        CHECK.same("the note is not dead any more", n.ofRule(0, 0), Walls.NOTE);
        Nettle later = new Nettle();
        Walls.add(later, Walls.ALLOW, Walls.FROM, 0, 9);
        Walls.add(later, Walls.DENY, Walls.FROM, 0, 9, Walls.TO, 0, 9);
        Walls.add(later, Walls.ALLOW, Walls.FROM, 0, 9);
        CHECK.same("the first one is needed at first", later.state(0), 0);
        CHECK.same("it is needless without the second one", later.shrink(), 2);
        CHECK.same("the last one stays", Look.rule(later, 0), "1 0 9 0 255 0 1023 0 3 0");
    }

    private static void shrinksToTheEnd() {
        Nettle n = Walls.whole(Walls.DENY, Walls.ALLOW, Walls.DENY, Walls.ALLOW, Walls.NOTE, Walls.DENY);
        n.move(4, 5);
        n.shrink();
        CHECK.same("only the note is left", Look.rule(n, 0), Walls.NOTE + Walls.WHOLE);
        CHECK.same("one", n.rules(), 1);
        CHECK.same("no more", n.shrink(), 0);
        for (int verdict = 0; verdict <= 1; verdict++) {
            Nettle all = new Nettle();
            all.setLast(verdict == 1);
            for (int rule = 0; rule < 8; rule++) {
                Walls.add(all, verdict, Walls.TO, rule, 255 - rule);
            }
            all.shrink();
            CHECK.same("all of eight", all.rules(), 0);
        }
    }

    private static void shrinkReturns() {
        CHECK.same("of none", new Nettle().shrink(), 0);
        CHECK.same("none of eight", Walls.row(8).shrink(), 0);
        Nettle n = Walls.whole(0, 0, 0, 0, 0, 0, 0, 0);
        CHECK.same("eight of eight", n.shrink(), 8);
        CHECK.same("none are left", n.rules(), 0);
        CHECK.same("seven of eight", Walls.whole(1, 0, 0, 1, 1, 0, 2, 2).shrink(), 7);
    }

    private static void countsRules() {
        Nettle n = new Nettle();
        for (int count = 0; count < 8; count++) {
            CHECK.same("up", n.rules(), count);
            n.rule(count % 3);
        }
        CHECK.same("eight", n.rules(), 8);
        n.move(0, 7);
        CHECK.same("as many when one is moved", n.rules(), 8);
        for (int count = 7; count >= 0; count--) {
            n.drop(0);
            CHECK.same("down", n.rules(), count);
        }
    }

    private static void tellsOfRule() {
        Nettle n = Walls.row(8);
        n.turn(7, Walls.ALLOW);
        int[] due = {1, 11, 22, 33, 44, 555, 666, 1, 2};
        for (int field = 0; field < 4; field++) {
            n.narrow(7, field, due[1 + 2 * field], due[2 + 2 * field]);
        }
        for (int what = 0; what <= 8; what++) {
            CHECK.same("what " + what, n.ofRule(7, what), due[what]);
        }
        CHECK.same("the first one", Look.rule(n, 0), "2 0 0 0 255 0 1023 0 3 0");
    }

    private static void tellsHits() {
        Nettle n = Walls.whole(Walls.NOTE, Walls.DENY, Walls.ALLOW);
        CHECK.same("not yet", Look.hits(n), "0 0 0");
        for (int often = 1; often <= 3; often++) {
            n.send(0, 0, 0, 0);
            CHECK.same("once more", Look.hits(n), often + " " + often + " 0");
        }
        n.turn(1, Walls.NOTE);
        n.narrow(1, 0, 9, 9);
        CHECK.same("turned and narrowed it stays", n.ofRule(1, 9), 3);
    }

    private static void ofRuleThrowsRule() {
        for (int count : COUNTS) {
            for (int rule : Walls.noNumbers(count)) {
                CHECK.noSuch("rule " + rule + " of " + count, () -> Walls.row(count), n -> n.ofRule(rule, 0));
            }
        }
        CHECK.noSuch("one that was dropped", EdgeRulesTest::oneDropped, n -> n.ofRule(5, 9));
    }

    private static void ofRuleThrowsWhat() {
        for (int what : Walls.noNumbers(10)) {
            CHECK.wrong("what " + what, Walls::used, n -> n.ofRule(0, what));
            CHECK.wrong("what " + what + " of the last one", Walls::full, n -> n.ofRule(7, what));
        }
    }
}
