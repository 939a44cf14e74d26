/** The terms 1 and 2 of the document: each sentence that names an edge has a test of its own. */
public final class EdgeTermsTest {
    private static final Check CHECK = new Check();

    public static void main(String[] args) {
        CHECK.sentence("Terms 1: PACKETS have four FIELDS: 0 FROM, 0 to 255", () -> valuesOf(Walls.FROM, 255));
        CHECK.sentence("Terms 1: PACKETS have four FIELDS: 1 TO, 0 to 255", () -> valuesOf(Walls.TO, 255));
        CHECK.sentence("Terms 1: PACKETS have four FIELDS: 2 PORT, 0 to 1023", () -> valuesOf(Walls.PORT, 1023));
        CHECK.sentence("Terms 1: PACKETS have four FIELDS: 3 KIND, 0 to 3", () -> valuesOf(Walls.KIND, 3));
        CHECK.sentence("Terms 1: RULES: at most 8", EdgeTermsTest::atMostEight);
        CHECK.sentence("Terms 1: numbered from 0 in their order", EdgeTermsTest::numberedInOrder);
        CHECK.sentence("Terms 1: each has a VERDICT: 0 DENY, 1 ALLOW, 2 NOTE", EdgeTermsTest::verdicts);
        CHECK.sentence("Terms 1: for each FIELD a RANGE from low to high", EdgeTermsTest::rangesHaveBothEnds);
        CHECK.sentence("Terms 1: it is WHOLE, if it has all VALUES of the FIELD", EdgeTermsTest::wholeRanges);
        CHECK.sentence("Terms 1: A RULE MEETS a PACKET, if all its RANGES have its VALUES",
                EdgeTermsTest::meetsWithAllRanges);
        CHECK.sentence("Terms 1: DECIDED by the first RULE with DENY or ALLOW", EdgeTermsTest::decidedByTheFirst);
        CHECK.sentence("Terms 1: that MEETS it", EdgeTermsTest::decidedByOneThatMeetsIt);
        CHECK.sentence("Terms 1: or by the LAST WORD, DENY (at first) or ALLOW", EdgeTermsTest::lastWord);
        CHECK.sentence("Terms 1: The AMOUNT of PACKETS is how many of all 268435456", EdgeTermsTest::amounts);
        CHECK.sentence("Terms 2: one is DEAD, if it is no NOTE, and DECIDES no PACKET", EdgeTermsTest::deadRule);
        CHECK.sentence("Terms 2: a NOTE is DEAD, if each PACKET that it MEETS is DECIDED", EdgeTermsTest::deadNote);
        CHECK.sentence("Terms 2: by RULES ahead of it", EdgeTermsTest::noteIsDeadByRulesAheadAlone);
        CHECK.sentence("Terms 2: A RULE, a NOTE, too, is COVERED by another one", EdgeTermsTest::coveredByAnother);
        CHECK.sentence("Terms 2: COVERED by one ahead of it", EdgeTermsTest::coveredByOneAhead);
        CHECK.sentence("Terms 2: COVERED by one that is no NOTE", EdgeTermsTest::coveredByNoNote);
        CHECK.sentence("Terms 2: if each RANGE of that has all VALUES of its own one",
                EdgeTermsTest::coveredInEachField);
        CHECK.sentence("Terms 2: (it is DEAD then)", EdgeTermsTest::coveredIsDead);
        CHECK.sentence("Terms 2: One that is no NOTE is NEEDLESS", EdgeTermsTest::noNoteIsNeedless);
        CHECK.sentence("Terms 2: NEEDLESS, if it is not DEAD", EdgeTermsTest::noDeadOneIsNeedless);
        CHECK.sentence("Terms 2: but without it each PACKET would have the same VERDICT",
                EdgeTermsTest::needlessForEachPacket);
        CHECK.sentence("Terms 2: Two RULES that are no NOTES stand AGAINST each other",
                EdgeTermsTest::noNoteStandsAgainst);
        CHECK.sentence("Terms 2: if some PACKET is MET by both", EdgeTermsTest::againstByOnePacket);
        CHECK.sentence("Terms 2: and their VERDICTS are not the same", EdgeTermsTest::againstByVerdicts);
        CHECK.done("EdgeTermsTest");
    }

    private static void valuesOf(int field, int top) {
        for (int value : new int[] {0, top}) {
            Nettle n = Walls.oneRule();
            n.narrow(0, field, value, value);
            CHECK.same("decider of the value " + value, Walls.decider(n, Walls.packet(field, value)), 0);
            CHECK.same("decider of the other end", Walls.decider(n, Walls.packet(field, top - value)), -1);
            CHECK.same("steps of the value " + value, Walls.steps(n, Walls.packet(field, value)), field + 1);
            CHECK.same("send of the value " + value, Walls.send(n, Walls.packet(field, value)), 1);
            CHECK.same("the VALUES are so many", n.narrow(0, field, 0, top), 1);
            CHECK.same("all of them", n.narrow(0, field, 0, 0), top + 1);
        }
        for (int value : Walls.noValues(field)) {
            int[] packet = Walls.packet(field, value);
            CHECK.wrong("narrow to " + value, Walls::oneRule, n -> n.narrow(0, field, value, value));
            CHECK.wrong("decider of " + value, Walls::oneRule, n -> Walls.decider(n, packet));
            CHECK.wrong("steps of " + value, Walls::oneRule, n -> Walls.steps(n, packet));
            CHECK.wrong("send of " + value, Walls::oneRule, n -> Walls.send(n, packet));
        }
    }

    private static void atMostEight() {
        Nettle n = new Nettle();
        for (int rule = 0; rule < 8; rule++) {
            CHECK.same("there is room", n.rule(rule % 3), rule);
        }
        CHECK.same("eight", n.rules(), 8);
        for (int verdict = 0; verdict <= 2; verdict++) {
            int ninth = verdict;
            CHECK.refuses("a ninth one", IllegalStateException.class, Walls::full, full -> full.rule(ninth));
        }
        CHECK.same("all eight can be asked", n.ofRule(7, 0), 1);
    }

    private static void numberedInOrder() {
        Nettle n = Walls.row(8);
        CHECK.same("as they came", Walls.order(n), "01234567");
        CHECK.noSuch("there is no number below 0", () -> Walls.row(8), row -> row.ofRule(-1, 0));
        n.drop(0);
        CHECK.same("the first one has 0 again", n.ofRule(0, 1), 1);
        CHECK.same("the last one has one less", n.ofRule(6, 1), 7);
    }

    private static void verdicts() {
        Nettle n = new Nettle();
        n.setLast(true);
        add(n, Walls.DENY, Walls.FROM, 0, 0);
        CHECK.same("0 is DENY", n.send(0, 0, 0, 0), 0);
        n.setLast(false);
        add(n, Walls.ALLOW, Walls.FROM, 1, 1);
        CHECK.same("1 is ALLOW", n.send(1, 0, 0, 0), 1);
        add(n, Walls.NOTE, Walls.FROM, 2, 2);
        CHECK.same("2 is NOTE: it decides nothing", n.decider(2, 0, 0, 0), -1);
        n.send(2, 0, 0, 0);
        CHECK.same("2 is NOTE: it is hit", n.ofRule(2, 9), 1);
        for (int verdict : Walls.noNumbers(3)) {
            CHECK.wrong("a rule with " + verdict, Walls::oneRule, one -> one.rule(verdict));
            CHECK.wrong("turned to " + verdict, Walls::oneRule, one -> one.turn(0, verdict));
        }
    }

    private static void rangesHaveBothEnds() {
        for (int field = 0; field < 4; field++) {
            Nettle n = Walls.oneRule();
            n.narrow(0, field, 1, 2);
            int[] due = {-1, 0, 0, -1};
            for (int value = 0; value < 4; value++) {
                CHECK.same("field " + field + " value " + value,
                        Walls.decider(n, Walls.packet(field, value)), due[value]);
            }
            CHECK.same("two values", n.decides(0), Walls.ALL / Walls.SIZES[field] * 2);
            n.narrow(0, field, 2, 2);
            CHECK.same("low may be high", n.decides(0), Walls.ALL / Walls.SIZES[field]);
        }
    }

    /** A RULE that is WHOLE makes no NODE; each other one makes one for each FIELD up to its own. */
    private static void wholeRanges() {
        for (int field = 0; field < 4; field++) {
            int top = Walls.SIZES[field] - 1;
            Nettle n = Walls.oneRule();
            CHECK.same("at first", n.nodes(), 0);
            n.narrow(0, field, 1, top);
            CHECK.same("without the least value of field " + field, n.nodes(), field + 1);
            n.narrow(0, field, 0, top - 1);
            CHECK.same("without the greatest value of field " + field, n.nodes(), field + 1);
            n.narrow(0, field, 0, top);
            CHECK.same("all values of field " + field, n.nodes(), 0);
        }
    }

    private static void meetsWithAllRanges() {
        Nettle n = new Nettle();
        add(n, Walls.DENY, Walls.FROM, 10, 20, Walls.TO, 30, 40, Walls.PORT, 50, 60, Walls.KIND, 1, 2);
        int[][] ends = {{10, 20}, {30, 40}, {50, 60}, {1, 2}};
        for (int[] packet : new int[][] {{10, 30, 50, 1}, {20, 40, 60, 2}, {10, 40, 50, 2}}) {
            CHECK.same("all ranges", Walls.decider(n, packet), 0);
        }
        for (int field = 0; field < 4; field++) {
            int[] packet = {15, 35, 55, 1};
            packet[field] = ends[field][0] - 1;
            CHECK.same("one below in field " + field, Walls.decider(n, packet), -1);
            packet[field] = ends[field][1] + 1;
            CHECK.same("one above in field " + field, Walls.decider(n, packet), -1);
        }
        CHECK.same("how many it meets", n.shared(0, 0), 11 * 11 * 11 * 2);
    }

    private static void decidedByTheFirst() {
        Nettle n = Walls.whole(Walls.NOTE, Walls.DENY, Walls.ALLOW, Walls.DENY);
        CHECK.same("not by the note ahead, nor by those behind", n.decider(0, 0, 0, 0), 1);
        CHECK.same("it denies", n.send(0, 0, 0, 0), 0);
        n.move(2, 1);
        CHECK.same("the other one is the first now", n.decider(0, 0, 0, 0), 1);
        CHECK.same("it allows", n.send(0, 0, 0, 0), 1);
        n.turn(1, Walls.NOTE);
        CHECK.same("a note decides no more", n.decider(0, 0, 0, 0), 2);
    }

    private static void decidedByOneThatMeetsIt() {
        Nettle n = new Nettle();
        add(n, Walls.DENY, Walls.KIND, 0, 2);
        add(n, Walls.ALLOW, Walls.KIND, 1, 3);
        CHECK.same("the first one meets it", n.decider(0, 0, 0, 2), 0);
        CHECK.same("the second one alone", n.decider(0, 0, 0, 3), 1);
    }

    private static void lastWord() {
        Nettle n = new Nettle();
        CHECK.same("none decides", n.decider(0, 0, 0, 0), -1);
        CHECK.same("DENY at first", n.send(0, 0, 0, 0), 0);
        CHECK.same("none is allowed", n.allowed(), 0);
        n.setLast(true);
        CHECK.same("ALLOW", n.send(0, 0, 0, 0), 1);
        add(n, Walls.DENY, Walls.FROM, 0, 0);
        add(n, Walls.NOTE, Walls.FROM, 1, 1);
        CHECK.same("a rule is ahead of it", n.send(0, 0, 0, 0), 0);
        CHECK.same("a note is not", n.decider(1, 0, 0, 0), -1);
        CHECK.same("all else is allowed", n.allowed(), 255 * Walls.OF_FROM);
    }

    private static void amounts() {
        Nettle n = new Nettle();
        Walls.addTheLast(n, Walls.ALLOW);
        CHECK.same("one packet", n.allowed(), 1);
        n.turn(0, Walls.DENY);
        n.setLast(true);
        CHECK.same("all but one", n.allowed(), 268435455);
        n.drop(0);
        CHECK.same("all", n.allowed(), 268435456);
        n.rule(Walls.DENY);
        CHECK.same("all by a rule", n.decides(0), 268435456);
        CHECK.same("none", n.allowed(), 0);
    }

    private static void deadRule() {
        Nettle n = new Nettle();
        Walls.addAllButTheLast(n, Walls.DENY);
        n.rule(Walls.ALLOW);
        CHECK.same("one packet is left", n.decides(4), 1);
        CHECK.same("one packet is enough", n.state(4), 0);
        Walls.addTheLast(n, Walls.DENY);
        n.move(5, 0);
        CHECK.same("none is left", n.decides(5), 0);
        CHECK.same("no packet: dead, covered by none", n.state(5), 3);
        n.turn(5, Walls.DENY);
        CHECK.same("dead with DENY as well", n.state(5), 3);
    }

    private static void deadNote() {
        Nettle n = new Nettle();
        Walls.addAllButTheLast(n, Walls.ALLOW);
        n.rule(Walls.NOTE);
        CHECK.same("one packet is left", n.decides(4), 1);
        CHECK.same("one packet is enough", n.state(4), 0);
        Walls.addTheLast(n, Walls.DENY);
        n.move(5, 0);
        CHECK.same("none is left", n.decides(5), 0);
        CHECK.same("dead, covered by none", n.state(5), 3);
    }

    private static void noteIsDeadByRulesAheadAlone() {
        Nettle n = Walls.whole(Walls.NOTE, Walls.NOTE, Walls.ALLOW);
        CHECK.same("a note ahead decides nothing", n.state(1), 0);
        CHECK.same("a rule behind counts for nothing", n.decides(1), Walls.ALL);
        n.setLast(true);
        n.drop(2);
        CHECK.same("the last word counts for nothing", n.state(1), 0);
        n.rule(Walls.ALLOW);
        n.move(2, 1);
        CHECK.same("a rule ahead", n.state(2), 2);
        CHECK.same("the note ahead of that one is alive", n.state(0), 0);
    }

    private static void coveredByAnother() {
        Nettle n = new Nettle();
        add(n, Walls.ALLOW, Walls.FROM, 10, 20);
        add(n, Walls.ALLOW, Walls.FROM, 11, 19);
        add(n, Walls.NOTE, Walls.FROM, 10, 20);
        CHECK.same("not by itself", n.coveredBy(0), -1);
        CHECK.same("a rule", n.coveredBy(1), 0);
        CHECK.same("a note, too", n.coveredBy(2), 0);
    }

    private static void coveredByOneAhead() {
        Nettle n = new Nettle();
        add(n, Walls.DENY, Walls.FROM, 10, 20);
        n.rule(Walls.ALLOW);
        CHECK.same("not by one behind", n.coveredBy(0), -1);
        n.move(1, 0);
        CHECK.same("by one ahead", n.coveredBy(1), 0);
        n.move(0, 1);
        CHECK.same("no more", n.coveredBy(0), -1);
    }

    private static void coveredByNoNote() {
        Nettle n = Walls.whole(Walls.NOTE, Walls.DENY, Walls.ALLOW);
        CHECK.same("not by a note", n.coveredBy(1), -1);
        CHECK.same("by the one behind it", n.coveredBy(2), 1);
        n.turn(0, Walls.ALLOW);
        CHECK.same("no note any more", n.coveredBy(1), 0);
        CHECK.same("the first one", n.coveredBy(2), 0);
    }

    private static void coveredInEachField() {
        for (int field = 0; field < 4; field++) {
            Nettle n = new Nettle();
            add(n, Walls.DENY, field, 1, 2);
            add(n, Walls.DENY, field, 1, 2);
            CHECK.same("the same range of field " + field, n.coveredBy(1), 0);
            n.narrow(1, field, 0, 2);
            CHECK.same("one value below", n.coveredBy(1), -1);
            n.narrow(1, field, 1, 3);
            CHECK.same("one value above", n.coveredBy(1), -1);
            n.narrow(1, field, 2, 2);
            CHECK.same("one value of it", n.coveredBy(1), 0);
            n.narrow(0, field, 0, Walls.SIZES[field] - 1);
            n.narrow(1, field, 0, Walls.SIZES[field] - 1);
            CHECK.same("a whole one by a whole one", n.coveredBy(1), 0);
        }
    }

    private static void coveredIsDead() {
        Nettle n = Walls.whole(Walls.ALLOW, Walls.ALLOW, Walls.DENY, Walls.NOTE);
        for (int rule = 1; rule < 4; rule++) {
            CHECK.same("it decides none", n.decides(rule), 0);
            CHECK.same("dead", n.state(rule), rule == 1 ? 1 : 2);
        }
        CHECK.same("all of them are taken away", n.shrink(), 3);
    }

    private static void noNoteIsNeedless() {
        Nettle n = Walls.whole(Walls.NOTE);
        CHECK.same("a note that changes no verdict", n.state(0), 0);
        CHECK.same("it stays", n.shrink(), 0);
        n.turn(0, Walls.DENY);
        CHECK.same("a rule that changes none", n.state(0), 4);
    }

    private static void noDeadOneIsNeedless() {
        Nettle n = Walls.whole(Walls.ALLOW, Walls.ALLOW);
        CHECK.same("dead, and without it all is the same", n.state(1), 1);
        n.setLast(true);
        n.turn(1, Walls.DENY);
        CHECK.same("dead by another verdict", n.state(1), 2);
        n.drop(1);
        CHECK.same("not dead: needless", n.state(0), 4);
    }

    private static void needlessForEachPacket() {
        Nettle n = Walls.whole(Walls.ALLOW);
        Walls.addAllButTheLast(n, Walls.ALLOW);
        CHECK.same("one packet would have another verdict", n.state(0), 0);
        CHECK.same("the last word", n.setLast(true), false);
        CHECK.same("none would, by the last word", n.state(0), 4);
        n.setLast(false);
        Walls.addTheLast(n, Walls.ALLOW);
        CHECK.same("none would, by a rule", n.state(0), 4);
        n.turn(5, Walls.DENY);
        CHECK.same("one would, by a rule", n.state(0), 0);
    }

    private static void noNoteStandsAgainst() {
        Nettle n = Walls.whole(Walls.NOTE, Walls.ALLOW, Walls.NOTE);
        CHECK.same("notes on both sides", n.quarrels(), 0);
        n.turn(0, Walls.DENY);
        CHECK.same("a rule ahead", n.quarrels(), 1);
        n.turn(2, Walls.DENY);
        CHECK.same("a rule behind", n.quarrels(), 2);
    }

    private static void againstByOnePacket() {
        Nettle n = new Nettle();
        add(n, Walls.ALLOW, Walls.FROM, 0, 10, Walls.TO, 0, 10, Walls.PORT, 0, 10, Walls.KIND, 0, 1);
        add(n, Walls.DENY, Walls.FROM, 10, 20, Walls.TO, 10, 20, Walls.PORT, 10, 20, Walls.KIND, 1, 2);
        CHECK.same("one packet", n.shared(0, 1), 1);
        CHECK.same("is enough", n.quarrels(), 1);
        for (int field = 0; field < 4; field++) {
            int touching = field == Walls.KIND ? 1 : 10;
            n.narrow(1, field, touching + 1, touching + 1);
            CHECK.same("beside each other in field " + field, n.quarrels(), 0);
            n.narrow(1, field, touching, touching + 1);
            CHECK.same("touching again", n.quarrels(), 1);
        }
    }

    private static void againstByVerdicts() {
        Nettle n = Walls.whole(Walls.ALLOW, Walls.ALLOW);
        CHECK.same("both ALLOW", n.quarrels(), 0);
        n.turn(0, Walls.DENY);
        CHECK.same("DENY and ALLOW", n.quarrels(), 1);
        n.turn(1, Walls.DENY);
        CHECK.same("both DENY", n.quarrels(), 0);
        n.turn(0, Walls.ALLOW);
        CHECK.same("ALLOW and DENY, though that is dead", n.quarrels(), 1);
    }

    private static int add(Nettle n, int verdict, int... ranges) {
        return Walls.add(n, verdict, ranges);
    }
}
