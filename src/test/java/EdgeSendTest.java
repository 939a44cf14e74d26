/** The term 4 and the promises 23 to 26: each sentence that names an edge has a test of its own. */
public final class EdgeSendTest {
    private static final Check CHECK = new Check();
    private static final String EIGHT = "0-9:0 1-9:0 2-9:0 3-9:0 4-9:0 5-9:0 6-9:0 7-9:0";

    public static void main(String[] args) {
        CHECK.sentence("Terms 4: it is REMEMBERED, if it is of KIND 1", EdgeSendTest::rememberedByKind);
        CHECK.sentence("Terms 4: among those kept is one", EdgeSendTest::rememberedOfThoseKept);
        CHECK.sentence("Terms 4: with FROM and TO the other way round", EdgeSendTest::rememberedTheOtherWayRound);
        CHECK.sentence("Terms 4: and the same PORT", EdgeSendTest::rememberedByPort);
        CHECK.sentence("Terms 4: then it is ALLOWED at once", EdgeSendTest::rememberedAtOnce);
        CHECK.sentence("Terms 4: and nothing else happens", EdgeSendTest::rememberedAlone);
        CHECK.sentence("Terms 4: Otherwise each NOTE that MEETS it", EdgeSendTest::hitsNotesThatMeetIt);
        CHECK.sentence("Terms 4: ahead of the RULE that DECIDES it", EdgeSendTest::hitsNotesAhead);
        CHECK.sentence("Terms 4: (wherever it is, if none does)", EdgeSendTest::hitsNotesWhereverTheyAre);
        CHECK.sentence("Terms 4: and that RULE, is HIT once more", EdgeSendTest::hitsTheRule);
        CHECK.sentence("Terms 4: if it is ALLOWED it is kept", EdgeSendTest::keepsAllowedOnes);
        CHECK.sentence("Terms 4: and of KIND 0", EdgeSendTest::keepsKindZero);
        CHECK.sentence("Terms 4: one that is kept already comes to the end", EdgeSendTest::keptAlreadyComesToTheEnd);
        CHECK.sentence("Terms 4: the same FROM, TO and PORT", EdgeSendTest::keptAlreadyIsTheSameInAllThree);
        CHECK.sentence("Terms 4: of a ninth one the first one is kept no more", EdgeSendTest::ninthOne);
        CHECK.sentence("Promise 23: Returns 0 if it is DENIED", EdgeSendTest::sendDenied);
        CHECK.sentence("Promise 23: 1 if it is ALLOWED", EdgeSendTest::sendAllowed);
        CHECK.sentence("Promise 23: 2 if it is REMEMBERED", EdgeSendTest::sendRemembered);
        CHECK.sentence("Promise 23: Throws if one is no VALUE of its FIELD", EdgeSendTest::sendThrows);
        CHECK.sentence("Promise 24: 0 how many PACKETS were SENT", EdgeSendTest::sentAll);
        CHECK.sentence("Promise 24: 1 how many of these were ALLOWED (REMEMBERED ones, too)",
                EdgeSendTest::sentAllowed);
        CHECK.sentence("Promise 24: 2 how many were REMEMBERED", EdgeSendTest::sentRemembered);
        CHECK.sentence("Promise 24: 3 how many are kept now", EdgeSendTest::sentKept);
        CHECK.sentence("Promise 24: 4 how many the LAST WORD DECIDED", EdgeSendTest::sentByLastWord);
        CHECK.sentence("Promise 24: (REMEMBERED ones not)", EdgeSendTest::sentByLastWordWithoutRemembered);
        CHECK.sentence("Promise 24: however many, up to the 512th call", EdgeSendTest::sentVeryMany);
        CHECK.sentence("Promise 24: Throws if what is not 0 to 4", EdgeSendTest::sentThrows);
        CHECK.sentence("Promise 25: a place among those kept, from 0, the first one", EdgeSendTest::places);
        CHECK.sentence("Promise 25: 0 FROM, 1 TO, 2 PORT", EdgeSendTest::keptFields);
        CHECK.sentence("Promise 25: Throws if there is no such place", EdgeSendTest::keptThrowsPlace);
        CHECK.sentence("Promise 25: Throws if field is not 0 to 2", EdgeSendTest::keptThrowsField);
        CHECK.sentence("Promise 26: Keeps none any more", EdgeSendTest::forgets);
        CHECK.sentence("Promise 26: Returns how many were kept", EdgeSendTest::forgetReturns);
        CHECK.done("EdgeSendTest");
    }

    private static Nettle open() {
        Nettle n = new Nettle();
        n.setLast(true);
        return n;
    }

    /** As many PACKETS kept: FROM 0, 1, 2 and so on to TO 9 at PORT 0. */
    private static Nettle keeping(int count) {
        Nettle n = open();
        for (int from = 0; from < count; from++) {
            n.send(from, 9, 0, 0);
        }
        return n;
    }

    private static void rememberedByKind() {
        int[] due = {1, 2, 1, 1};
        for (int kind = 0; kind < 4; kind++) {
            Nettle n = keeping(1);
            CHECK.same("kind " + kind, n.send(9, 0, 0, kind), due[kind]);
        }
    }

    private static void rememberedOfThoseKept() {
        CHECK.same("none is kept", open().send(9, 0, 0, 1), 1);
        for (int place = 0; place < 8; place++) {
            Nettle n = keeping(8);
            CHECK.same("the place " + place, n.send(9, place, 0, 1), 2);
        }
        CHECK.same("none of eight", keeping(8).send(9, 8, 0, 1), 1);
        Nettle twice = keeping(1);
        for (int i = 0; i < 3; i++) {
            CHECK.same("as often as it comes", twice.send(9, 0, 0, 1), 2);
        }
    }

    private static void rememberedTheOtherWayRound() {
        Nettle n = keeping(1);
        CHECK.same("the same way", n.send(0, 9, 0, 1), 1);
        CHECK.same("another FROM", n.send(8, 0, 0, 1), 1);
        CHECK.same("another TO", n.send(9, 1, 0, 1), 1);
        CHECK.same("the other way round", n.send(9, 0, 0, 1), 2);
        n.send(255, 255, 7, 0);
        CHECK.same("FROM and TO are one", n.send(255, 255, 7, 1), 2);
    }

    private static void rememberedByPort() {
        Nettle n = keeping(1);
        CHECK.same("one more", n.send(9, 0, 1, 1), 1);
        CHECK.same("the least one", n.send(9, 0, 0, 1), 2);
        n.send(0, 9, 1023, 0);
        CHECK.same("one less", n.send(9, 0, 1022, 1), 1);
        CHECK.same("the greatest one", n.send(9, 0, 1023, 1), 2);
    }

    private static void rememberedAtOnce() {
        Nettle n = keeping(1);
        n.rule(Walls.DENY);
        n.setLast(false);
        CHECK.same("a rule that denies all, and the last word do not matter", n.send(9, 0, 0, 1), 2);
        CHECK.same("it counts as allowed", n.sent(1), 2);
        CHECK.same("others are denied", n.send(9, 1, 0, 1), 0);
    }

    private static void rememberedAlone() {
        Nettle n = keeping(3);
        n.rule(Walls.NOTE);
        n.rule(Walls.ALLOW);
        n.send(9, 0, 0, 1);
        CHECK.same("none is hit", Look.hits(n), "0 0");
        CHECK.same("those kept stay in their order", Look.kept(n), "0-9:0 1-9:0 2-9:0");
        CHECK.same("the last word decided three", Look.sent(n), "4 4 1 3 3");
        n.drop(1);
        n.send(9, 1, 0, 1);
        CHECK.same("nor does the last word decide it", Look.sent(n), "5 5 2 3 3");
    }

    private static void hitsNotesThatMeetIt() {
        Nettle n = new Nettle();
        Walls.add(n, Walls.NOTE, Walls.FROM, 5, 9);
        Walls.add(n, Walls.NOTE, Walls.PORT, 5, 9);
        n.rule(Walls.NOTE);
        n.rule(Walls.DENY);
        n.send(5, 0, 10, 0);
        CHECK.same("by FROM", Look.hits(n), "1 0 1 1");
        n.send(4, 0, 9, 1);
        CHECK.same("by PORT", Look.hits(n), "1 1 2 2");
        n.send(9, 0, 5, 2);
        CHECK.same("by both", Look.hits(n), "2 2 3 3");
        n.send(10, 0, 4, 3);
        CHECK.same("by none", Look.hits(n), "2 2 4 4");
    }

    private static void hitsNotesAhead() {
        Nettle n = Walls.whole(Walls.NOTE, Walls.NOTE, Walls.ALLOW, Walls.NOTE, Walls.NOTE);
        n.send(1, 2, 3, 0);
        CHECK.same("none behind", Look.hits(n), "1 1 1 0 0");
        n.narrow(2, 0, 0, 0);
        n.rule(Walls.DENY);
        n.send(1, 2, 3, 2);
        CHECK.same("behind one that does not decide it", Look.hits(n), "2 2 1 1 1 1");
    }

    private static void hitsNotesWhereverTheyAre() {
        Nettle n = new Nettle();
        n.rule(Walls.NOTE);
        Walls.add(n, Walls.DENY, Walls.FROM, 9, 9);
        n.rule(Walls.NOTE);
        Walls.add(n, Walls.ALLOW, Walls.TO, 9, 9);
        n.rule(Walls.NOTE);
        n.send(0, 0, 0, 0);
        CHECK.same("denied by the last word", Look.hits(n), "1 0 1 0 1");
        n.setLast(true);
        n.send(0, 0, 0, 0);
        CHECK.same("allowed by the last word", Look.hits(n), "2 0 2 0 2");
        Nettle eight = Walls.whole(2, 2, 2, 2, 2, 2, 2, 2);
        eight.send(255, 255, 1023, 3);
        CHECK.same("all of eight", Look.hits(eight), "1 1 1 1 1 1 1 1");
    }

    private static void hitsTheRule() {
        Nettle n = Walls.whole(Walls.DENY, Walls.ALLOW);
        for (int often = 1; often <= 3; often++) {
            n.send(0, 0, 0, 0);
            CHECK.same("one that denies", Look.hits(n), often + " 0");
        }
        n.move(1, 0);
        for (int often = 1; often <= 3; often++) {
            n.send(0, 0, 0, 3);
            CHECK.same("one that allows", Look.hits(n), often + " 3");
        }
        n.decider(0, 0, 0, 0);
        n.steps(0, 0, 0, 0);
        n.digest();
        CHECK.same("by nothing that is not sent", Look.hits(n), "3 3");
    }

    private static void keepsAllowedOnes() {
        Nettle n = Walls.whole(Walls.ALLOW);
        n.send(1, 2, 3, 0);
        CHECK.same("allowed by a rule", Look.kept(n), "1-2:3");
        n.turn(0, Walls.DENY);
        n.send(4, 5, 6, 0);
        CHECK.same("denied by a rule", Look.kept(n), "1-2:3");
        n.drop(0);
        n.send(4, 5, 6, 0);
        CHECK.same("denied by the last word", Look.kept(n), "1-2:3");
        n.setLast(true);
        n.send(4, 5, 6, 0);
        CHECK.same("allowed by the last word", Look.kept(n), "1-2:3 4-5:6");
        n.rule(Walls.DENY);
        n.send(1, 2, 3, 0);
        CHECK.same("one that is kept, and now denied, stays where it is", Look.kept(n), "1-2:3 4-5:6");
    }

    private static void keepsKindZero() {
        Nettle n = open();
        for (int kind = 1; kind < 4; kind++) {
            n.send(1, 2, 3, kind);
            CHECK.same("kind " + kind, n.sent(3), 0);
        }
        n.send(1, 2, 3, 0);
        CHECK.same("kind 0", n.sent(3), 1);
        n.send(4, 5, 6, 0);
        for (int kind = 1; kind < 4; kind++) {
            n.send(1, 2, 3, kind);
            CHECK.same("the same with kind " + kind + " moves nothing", Look.kept(n), "1-2:3 4-5:6");
        }
    }

    private static void keptAlreadyComesToTheEnd() {
        Nettle n = keeping(3);
        n.send(0, 9, 0, 0);
        CHECK.same("the first one", Look.kept(n), "1-9:0 2-9:0 0-9:0");
        n.send(2, 9, 0, 0);
        CHECK.same("one in the midst", Look.kept(n), "1-9:0 0-9:0 2-9:0");
        n.send(2, 9, 0, 0);
        CHECK.same("the last one", Look.kept(n), "1-9:0 0-9:0 2-9:0");
        Nettle only = keeping(1);
        only.send(0, 9, 0, 0);
        CHECK.same("the only one", Look.kept(only), "0-9:0");
        Nettle eight = keeping(8);
        eight.send(0, 9, 0, 0);
        CHECK.same("the first of eight: none goes", Look.kept(eight),
                "1-9:0 2-9:0 3-9:0 4-9:0 5-9:0 6-9:0 7-9:0 0-9:0");
        eight.send(5, 9, 0, 0);
        CHECK.same("another one of eight: none goes", Look.kept(eight),
                "1-9:0 2-9:0 3-9:0 4-9:0 6-9:0 7-9:0 0-9:0 5-9:0");
    }

    private static void keptAlreadyIsTheSameInAllThree() {
        Nettle n = keeping(1);
        n.send(1, 9, 0, 0);
        CHECK.same("another FROM", Look.kept(n), "0-9:0 1-9:0");
        n.send(0, 8, 0, 0);
        CHECK.same("another TO", Look.kept(n), "0-9:0 1-9:0 0-8:0");
        n.send(0, 9, 1, 0);
        CHECK.same("another PORT", Look.kept(n), "0-9:0 1-9:0 0-8:0 0-9:1");
        n.send(9, 0, 0, 0);
        CHECK.same("the other way round", Look.kept(n), "0-9:0 1-9:0 0-8:0 0-9:1 9-0:0");
        n.send(0, 9, 0, 0);
        CHECK.same("the same", Look.kept(n), "1-9:0 0-8:0 0-9:1 9-0:0 0-9:0");
    }

    private static void ninthOne() {
        CHECK.same("eight", Look.kept(keeping(8)), EIGHT);
        CHECK.same("nine", Look.kept(keeping(9)), EIGHT.substring(6) + " 8-9:0");
        CHECK.same("ten", Look.kept(keeping(10)), EIGHT.substring(12) + " 8-9:0 9-9:0");
        Nettle n = keeping(9);
        CHECK.same("eight are kept", n.sent(3), 8);
        n.setLast(false);
        CHECK.same("the first one is remembered no more", n.send(9, 0, 0, 1), 0);
        CHECK.same("the second one is", n.send(9, 1, 0, 1), 2);
        CHECK.same("the ninth one is", n.send(9, 8, 0, 1), 2);
        n.send(100, 9, 0, 0);
        CHECK.same("for one that is denied none goes", n.kept(0, 0), 1);
        n.setLast(true);
        n.send(0, 9, 0, 0);
        CHECK.same("the first one comes again, at the end", n.kept(7, 0), 0);
        CHECK.same("and the second one goes", n.kept(0, 0), 2);
    }

    private static void sendDenied() {
        CHECK.same("by the last word", new Nettle().send(0, 0, 0, 0), 0);
        Nettle n = open();
        n.rule(Walls.DENY);
        for (int kind = 0; kind < 4; kind++) {
            CHECK.same("by a rule, kind " + kind, n.send(255, 255, 1023, kind), 0);
        }
    }

    private static void sendAllowed() {
        for (int kind = 0; kind < 4; kind++) {
            CHECK.same("by the last word, kind " + kind, open().send(255, 255, 1023, kind), 1);
            CHECK.same("by a rule, kind " + kind, Walls.oneRule().send(0, 0, 0, kind), 1);
        }
        Nettle twice = Walls.oneRule();
        CHECK.same("at first", twice.send(1, 1, 1, 0), 1);
        CHECK.same("and again", twice.send(1, 1, 1, 0), 1);
    }

    private static void sendRemembered() {
        Nettle n = keeping(1);
        CHECK.same("with the last word ALLOW", n.send(9, 0, 0, 1), 2);
        n.setLast(false);
        CHECK.same("with the last word DENY", n.send(9, 0, 0, 1), 2);
        n.rule(Walls.ALLOW);
        CHECK.same("with a rule that allows it", n.send(9, 0, 0, 1), 2);
    }

    private static void sendThrows() {
        for (int field = 0; field < 4; field++) {
            for (int value : Walls.noValues(field)) {
                int[] packet = Walls.packet(field, value);
                int[] answer = Walls.packet(field, value);
                answer[Walls.KIND] = field == Walls.KIND ? value : 1;
                CHECK.wrong("field " + field + ": " + value, Walls::full, n -> Walls.send(n, packet));
                CHECK.wrong("an answer, field " + field + ": " + value, Walls::full, n -> Walls.send(n, answer));
            }
        }
        CHECK.same("the greatest of each", open().send(255, 255, 1023, 3), 1);
        CHECK.same("the least of each", open().send(0, 0, 0, 0), 1);
    }

    private static void sentAll() {
        Nettle n = new Nettle();
        CHECK.same("none", n.sent(0), 0);
        n.send(1, 2, 3, 0);
        CHECK.same("one that was denied", n.sent(0), 1);
        n.setLast(true);
        n.send(1, 2, 3, 0);
        CHECK.same("one that was allowed", n.sent(0), 2);
        n.send(2, 1, 3, 1);
        CHECK.same("one that was remembered", n.sent(0), 3);
        n.forget();
        n.drop(n.rule(Walls.ALLOW));
        CHECK.same("it never gets less", n.sent(0), 3);
    }

    private static void sentAllowed() {
        Nettle n = new Nettle();
        n.send(1, 2, 3, 0);
        CHECK.same("none", n.sent(1), 0);
        n.setLast(true);
        n.send(1, 2, 3, 0);
        CHECK.same("by the last word", n.sent(1), 1);
        n.rule(Walls.ALLOW);
        n.send(1, 2, 3, 3);
        CHECK.same("by a rule", n.sent(1), 2);
        n.turn(0, Walls.DENY);
        n.send(2, 1, 3, 1);
        CHECK.same("a remembered one", n.sent(1), 3);
        n.send(2, 1, 4, 1);
        CHECK.same("not one that was denied", n.sent(1), 3);
    }

    private static void sentRemembered() {
        Nettle n = keeping(1);
        n.send(9, 0, 1, 1);
        CHECK.same("none", n.sent(2), 0);
        n.send(9, 0, 0, 1);
        n.send(9, 0, 0, 1);
        CHECK.same("two", n.sent(2), 2);
        n.forget();
        n.send(9, 0, 0, 1);
        CHECK.same("it never gets less", n.sent(2), 2);
    }

    private static void sentKept() {
        for (int count = 0; count <= 10; count++) {
            CHECK.same("after " + count, keeping(count).sent(3), Math.min(count, 8));
        }
        Nettle n = keeping(8);
        n.send(3, 9, 0, 0);
        CHECK.same("one that is kept already", n.sent(3), 8);
        n.forget();
        CHECK.same("none any more", n.sent(3), 0);
        n.send(3, 9, 0, 0);
        CHECK.same("one again", n.sent(3), 1);
    }

    private static void sentByLastWord() {
        Nettle n = Walls.row(1);
        n.send(0, 0, 0, 0);
        CHECK.same("a note decides nothing", n.sent(4), 1);
        n.turn(0, Walls.DENY);
        n.send(0, 0, 0, 0);
        CHECK.same("a rule decided it", n.sent(4), 1);
        n.turn(0, Walls.ALLOW);
        n.send(0, 0, 0, 0);
        CHECK.same("a rule decided it", n.sent(4), 1);
        n.send(1, 0, 0, 0);
        CHECK.same("denied", n.sent(4), 2);
        n.setLast(true);
        n.send(1, 0, 0, 0);
        CHECK.same("allowed", n.sent(4), 3);
    }

    private static void sentByLastWordWithoutRemembered() {
        Nettle n = keeping(1);
        n.send(9, 0, 0, 1);
        CHECK.same("a remembered one", n.sent(4), 1);
        n.forget();
        n.send(9, 0, 0, 1);
        CHECK.same("the same when it is forgotten", n.sent(4), 2);
    }

    /** The one call behind these is the object's 512th. */
    private static Nettle sending(Nettle n, int from, int to, int kind, int calls) {
        for (int i = 0; i < calls; i++) {
            n.send(from, to, 5, kind);
        }
        return n;
    }

    private static void sentVeryMany() {
        CHECK.same("sent", sending(new Nettle(), 1, 2, 3, 511).sent(0), 511);
        CHECK.same("allowed", sending(open(), 1, 2, 3, 510).sent(1), 510);
        CHECK.same("by the last word", sending(new Nettle(), 1, 2, 0, 511).sent(4), 511);
        Nettle answers = open();
        answers.send(1, 2, 5, 0);
        CHECK.same("remembered", sending(answers, 2, 1, 1, 509).sent(2), 509);
        CHECK.same("a rule is hit", sending(Walls.oneRule(), 1, 2, 3, 510).ofRule(0, 9), 510);
        CHECK.same("a note is hit", sending(Walls.whole(Walls.NOTE), 1, 2, 3, 510).ofRule(0, 9), 510);
        CHECK.same("kept", sending(Walls.oneRule(), 1, 2, 0, 510).sent(3), 1);
    }

    private static void sentThrows() {
        for (int what : Walls.noNumbers(5)) {
            CHECK.wrong("what " + what, Nettle::new, n -> n.sent(what));
            CHECK.wrong("what " + what + " of a full one", Walls::full, n -> n.sent(what));
        }
    }

    private static void places() {
        Nettle n = keeping(8);
        for (int place = 0; place < 8; place++) {
            CHECK.same("place " + place, n.kept(place, 0), place);
        }
        n.send(8, 9, 0, 0);
        for (int place = 0; place < 8; place++) {
            CHECK.same("place " + place + " after a ninth", n.kept(place, 0), place + 1);
        }
    }

    private static void keptFields() {
        Nettle n = open();
        n.send(255, 0, 1023, 0);
        n.send(0, 255, 0, 0);
        int[][] due = {{255, 0, 1023}, {0, 255, 0}};
        for (int place = 0; place < 2; place++) {
            for (int field = 0; field < 3; field++) {
                CHECK.same("place " + place + " field " + field, n.kept(place, field), due[place][field]);
            }
        }
    }

    private static void keptThrowsPlace() {
        for (int number : new int[] {0, 1, 5, 8}) {
            int count = number;
            for (int place : Walls.noNumbers(count)) {
                CHECK.noSuch("place " + place + " of " + count, () -> keeping(count), n -> n.kept(place, 0));
            }
        }
        CHECK.noSuch("a ninth one", () -> keeping(9), n -> n.kept(8, 0));
        CHECK.noSuch("forgotten", EdgeSendTest::forgotten, n -> n.kept(0, 0));
    }

    private static Nettle forgotten() {
        Nettle n = keeping(8);
        n.forget();
        return n;
    }

    private static void keptThrowsField() {
        for (int field : Walls.noNumbers(3)) {
            CHECK.wrong("field " + field, () -> keeping(1), n -> n.kept(0, field));
            CHECK.wrong("field " + field + " of the last one", () -> keeping(8), n -> n.kept(7, field));
        }
    }

    private static void forgets() {
        Nettle n = forgotten();
        CHECK.same("none", Look.kept(n), "");
        for (int from = 0; from < 8; from++) {
            CHECK.same("none is remembered", n.send(9, from, 0, 1), 1);
        }
        n.send(7, 9, 0, 0);
        CHECK.same("a new first one", Look.kept(n), "7-9:0");
        CHECK.same("it is remembered", n.send(9, 7, 0, 1), 2);
    }

    private static void forgetReturns() {
        for (int count = 0; count <= 9; count++) {
            Nettle n = keeping(count);
            CHECK.same("after " + count, n.forget(), Math.min(count, 8));
            CHECK.same("none are left", n.forget(), 0);
        }
    }
}
