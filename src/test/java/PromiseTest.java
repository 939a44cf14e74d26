import java.util.ArrayList;
import java.util.List;
import java.util.function.Supplier;

/** Each promise of the document by hand: ordinary inputs, edges, and wrong inputs. */
public final class PromiseTest {
    private static final int DENY = 0;
    private static final int ALLOW = 1;
    private static final int NOTE = 2;
    private static final int[] SIZES = {256, 256, 1024, 4};
    private static final int ALL = 268435456;

    private static final Check CHECK = new Check();

    public static void main(String[] args) {
        promise1();
        promise2();
        promise3();
        promise4();
        promise5();
        promise6();
        promise7();
        promise8();
        promise8Order();
        promises9And10();
        promise11();
        promise12();
        promise13();
        promise14();
        promise15();
        promise16();
        promise17();
        promise18();
        promise19();
        promise20();
        promise21();
        promise22();
        promise23();
        promise23Hits();
        promise24();
        promise25();
        promise26();
        promise27();
        promise28();
        promise29();
        promise30();
        promise31();
        promise32();
        CHECK.done("PromiseTest");
    }

    /** Adds a RULE with RANGES, each told as a FIELD, its low and its high. */
    private static int add(Nettle n, int verdict, int... ranges) {
        int rule = n.rule(verdict);
        for (int i = 0; i + 2 < ranges.length; i += 3) {
            n.narrow(rule, ranges[i], ranges[i + 1], ranges[i + 2]);
        }
        return rule;
    }

    private static void same(String what, long got, long due) {
        CHECK.same(what, got, due);
    }

    private static String ruleText(Nettle n, int rule) {
        StringBuilder text = new StringBuilder();
        for (int what = 0; what <= 9; what++) {
            text.append(what == 0 ? "" : " ").append(n.ofRule(rule, what));
        }
        return text.toString();
    }

    private static final String WHOLE = " 0 255 0 255 0 1023 0 3 0";

    private static void promise1() {
        Nettle n = new Nettle();
        same("1 rules", n.rules(), 0);
        same("1 allowed", n.allowed(), 0);
        same("1 quarrels", n.quarrels(), 0);
        same("1 nodes", n.nodes(), 0);
        same("1 decider", n.decider(0, 0, 0, 0), -1);
        for (int what = 0; what <= 4; what++) {
            same("1 sent " + what, n.sent(what), 0);
        }
        same("1 changed", n.changed(), 0);
        same("1 shrink", n.shrink(), 0);
        same("1 forget", n.forget(), 0);
        same("1 the last word is DENY", n.setLast(false) ? 1 : 0, 0);
        Nettle other = new Nettle();
        other.rule(ALLOW);
        same("1 objects have their own rules", n.rules(), 0);
    }

    private static void promise2() {
        Nettle n = new Nettle();
        for (int rule = 0; rule < 8; rule++) {
            same("2 number", n.rule(rule % 3), rule);
            CHECK.same("2 whole", ruleText(n, rule), rule % 3 + WHOLE);
        }
        CHECK.fails("2 a ninth one", n, IllegalStateException.class, () -> n.rule(ALLOW));
        CHECK.illegal("2 verdict first", n, () -> n.rule(3));
        CHECK.illegal("2 verdict -1 first", n, () -> n.rule(-1));
        n.drop(3);
        same("2 there is room again", n.rule(NOTE), 7);
        Nettle used = new Nettle();
        add(used, DENY, 0, 1, 2, 1, 3, 4, 2, 5, 6, 3, 1, 1);
        used.send(1, 3, 5, 1);
        used.drop(0);
        same("2 again", used.rule(ALLOW), 0);
        CHECK.same("2 nothing of an earlier rule is left", ruleText(used, 0), ALLOW + WHOLE);
        CHECK.illegal("2 verdict 3", used, () -> used.rule(3));
        CHECK.illegal("2 verdict -1", used, () -> used.rule(-1));
        CHECK.illegal("2 least verdict", used, () -> used.rule(Integer.MIN_VALUE));
    }

    private static void promise3() {
        Nettle n = new Nettle();
        n.rule(ALLOW);
        n.rule(DENY);
        for (int f = 0; f < 4; f++) {
            int field = f;
            int top = SIZES[f] - 1;
            same("3 whole", n.narrow(0, f, top, top), SIZES[f]);
            same("3 one value", n.narrow(0, f, 0, 0), 1);
            same("3 the least value", n.narrow(0, f, 1, top), 1);
            same("3 all but one", n.narrow(0, f, 0, top), top);
            same("3 low", n.ofRule(0, 1 + 2 * f), 0);
            same("3 high", n.ofRule(0, 2 + 2 * f), top);
            n.narrow(0, f, 1, 2);
            CHECK.illegal("3 high too great", n, () -> n.narrow(0, field, 0, top + 1));
            CHECK.illegal("3 low too great", n, () -> n.narrow(0, field, top + 1, top + 1));
            CHECK.illegal("3 low too small", n, () -> n.narrow(0, field, -1, 0));
            CHECK.illegal("3 both too small", n, () -> n.narrow(0, field, -2, -1));
            CHECK.illegal("3 high below low", n, () -> n.narrow(0, field, 2, 1));
            CHECK.illegal("3 far off", n, () -> n.narrow(0, field, Integer.MIN_VALUE, Integer.MAX_VALUE));
        }
        CHECK.same("3 the other rule is as it was", ruleText(n, 1), DENY + WHOLE);
        CHECK.same("3 all ranges set", ruleText(n, 0), "1 1 2 1 2 1 2 1 2 0");
        CHECK.outOfBounds("3 no rule", n, () -> n.narrow(2, 0, 0, 0));
        CHECK.outOfBounds("3 rule -1", n, () -> n.narrow(-1, 0, 0, 0));
        CHECK.outOfBounds("3 no field", n, () -> n.narrow(0, 4, 0, 0));
        CHECK.outOfBounds("3 field -1", n, () -> n.narrow(0, -1, 0, 0));
        CHECK.outOfBounds("3 rule ahead of range", n, () -> n.narrow(2, 0, 5, 4));
        CHECK.outOfBounds("3 field ahead of range", n, () -> n.narrow(0, 4, 5, 4));
    }

    private static void promise4() {
        Nettle n = new Nettle();
        add(n, DENY, 1, 5, 9);
        n.send(0, 5, 0, 0);
        same("4 deny", n.turn(0, NOTE), DENY);
        same("4 note", n.turn(0, ALLOW), NOTE);
        same("4 allow", n.turn(0, ALLOW), ALLOW);
        CHECK.same("4 all else stays", ruleText(n, 0), "1 0 255 5 9 0 1023 0 3 1");
        same("4 counts at once", n.allowed(), 5 * 256 * 4096);
        CHECK.outOfBounds("4 no rule", n, () -> n.turn(1, 0));
        CHECK.outOfBounds("4 rule -1", n, () -> n.turn(-1, 0));
        CHECK.illegal("4 verdict 3", n, () -> n.turn(0, 3));
        CHECK.illegal("4 verdict -1", n, () -> n.turn(0, -1));
        CHECK.outOfBounds("4 rule first", n, () -> n.turn(1, 3));
    }

    private static Nettle fiveByFrom() {
        Nettle n = new Nettle();
        for (int rule = 0; rule < 5; rule++) {
            add(n, NOTE, 0, rule, rule);
        }
        return n;
    }

    private static String order(Nettle n) {
        StringBuilder text = new StringBuilder();
        for (int rule = 0; rule < n.rules(); rule++) {
            text.append(n.ofRule(rule, 1)).append(n.ofRule(rule, 9) == 0 ? "" : "*");
        }
        return text.toString();
    }

    private static void promise5() {
        Nettle n = fiveByFrom();
        n.send(3, 0, 0, 0);
        CHECK.same("5 at first", order(n), "0123*4");
        same("5 to the front", n.move(3, 0), 4);
        CHECK.same("5 to the front", order(n), "3*0124");
        same("5 to the end", n.move(1, 4), 4);
        CHECK.same("5 to the end", order(n), "3*1240");
        same("5 beside", n.move(2, 1), 2);
        CHECK.same("5 beside", order(n), "3*2140");
        same("5 on", n.move(1, 3), 3);
        CHECK.same("5 on", order(n), "3*1420");
        same("5 nowhere", n.move(2, 2), 0);
        CHECK.same("5 nowhere", order(n), "3*1420");
        CHECK.outOfBounds("5 no rule", n, () -> n.move(5, 0));
        CHECK.outOfBounds("5 rule -1", n, () -> n.move(-1, 0));
        CHECK.outOfBounds("5 no number", n, () -> n.move(0, 5));
        CHECK.outOfBounds("5 number -1", n, () -> n.move(0, -1));
        Nettle none = new Nettle();
        CHECK.outOfBounds("5 none", none, () -> none.move(0, 0));
    }

    private static void promise6() {
        Nettle n = fiveByFrom();
        n.send(3, 0, 0, 0);
        same("6 the first", n.drop(0), 4);
        CHECK.same("6 the first", order(n), "123*4");
        same("6 the last", n.drop(3), 3);
        CHECK.same("6 the last", order(n), "123*");
        same("6 in the midst", n.drop(1), 2);
        CHECK.same("6 in the midst", order(n), "13*");
        CHECK.outOfBounds("6 no rule", n, () -> n.drop(2));
        CHECK.outOfBounds("6 rule -1", n, () -> n.drop(-1));
        n.drop(0);
        same("6 the only one", n.drop(0), 0);
        CHECK.outOfBounds("6 none", n, () -> n.drop(0));
    }

    private static void promise7() {
        Nettle n = new Nettle();
        CHECK.same("7 first", n.setLast(true), false);
        same("7 all allowed", n.allowed(), ALL);
        CHECK.same("7 again", n.setLast(true), true);
        CHECK.same("7 back", n.setLast(false), true);
        same("7 none allowed", n.allowed(), 0);
        CHECK.same("7 still", n.setLast(false), false);
    }

    private static void promise8() {
        Nettle n = new Nettle();
        same("8 none", n.shrink(), 0);
        add(n, NOTE, 0, 0, 9);
        add(n, ALLOW, 0, 0, 99);
        add(n, NOTE, 0, 20, 30);
        add(n, DENY, 0, 50, 60);
        add(n, DENY, 0, 90, 150);
        add(n, NOTE, 0, 90, 150);
        add(n, NOTE, 0, 151, 151);
        same("8 a dead note, a dead rule, a needless rule", n.shrink(), 3);
        CHECK.same("8 what stays", ruleText(n, 0), "2 0 9 0 255 0 1023 0 3 0");
        CHECK.same("8 what stays", ruleText(n, 1), "1 0 99 0 255 0 1023 0 3 0");
        same("8 the note is alive without the rule ahead", n.ofRule(2, 1), 90);
        same("8 the last note", n.ofRule(3, 1), 151);
        same("8 no more", n.shrink(), 0);
        Nettle allowing = new Nettle();
        for (int rule = 0; rule < 8; rule++) {
            add(allowing, ALLOW, 1, rule, 200 - rule);
        }
        allowing.setLast(true);
        same("8 all of eight", allowing.shrink(), 8);
        same("8 none is left", allowing.rules(), 0);
    }

    /** The first one that can go is taken, not the one behind it that does the same. */
    private static void promise8Order() {
        Nettle n = new Nettle();
        add(n, ALLOW, 0, 0, 9);
        add(n, ALLOW, 0, 0, 9);
        n.send(0, 0, 0, 3);
        same("8 the second is dead", n.state(1), 1);
        same("8 the first is needless", n.state(0), 4);
        same("8 one of two alike", n.shrink(), 1);
        same("8 the first one was taken", n.ofRule(0, 9), 0);
        Nettle deny = new Nettle();
        add(deny, DENY, 0, 0, 9);
        add(deny, DENY, 0, 0, 9);
        same("8 both", deny.shrink(), 2);
        Nettle chain = new Nettle();
        add(chain, DENY, 0, 10, 20);
        add(chain, ALLOW, 0, 10, 15);
        add(chain, DENY, 0, 0, 255);
        same("8 the dead one first, then the first needless, then the other", chain.shrink(), 3);
    }

    private static void promises9And10() {
        Nettle n = new Nettle();
        same("9 none", n.rules(), 0);
        add(n, ALLOW, 0, 1, 2, 1, 3, 4, 2, 5, 6, 3, 0, 1);
        same("9 one", n.rules(), 1);
        n.send(1, 3, 5, 0);
        n.send(1, 3, 5, 0);
        CHECK.same("10 all of it", ruleText(n, 0), "1 1 2 3 4 5 6 0 1 2");
        CHECK.illegal("10 what 10", n, () -> n.ofRule(0, 10));
        CHECK.illegal("10 what -1", n, () -> n.ofRule(0, -1));
        CHECK.outOfBounds("10 no rule", n, () -> n.ofRule(1, 0));
        CHECK.outOfBounds("10 rule -1", n, () -> n.ofRule(-1, 0));
        CHECK.outOfBounds("10 rule first", n, () -> n.ofRule(1, 10));
        for (int rule = 1; rule < 8; rule++) {
            n.rule(NOTE);
        }
        same("9 eight", n.rules(), 8);
    }

    private static void promise11() {
        Nettle n = new Nettle();
        add(n, NOTE, 3, 0, 0);
        add(n, ALLOW, 2, 0, 511);
        add(n, NOTE, 2, 500, 600);
        add(n, DENY, 2, 500, 1023, 0, 0, 127);
        add(n, ALLOW);
        add(n, NOTE);
        same("11 a note ahead of all", n.decides(0), ALL / 4);
        same("11 the first rule; notes take nothing", n.decides(1), ALL / 2);
        same("11 a note behind a rule", n.decides(2), 89 * 256 * 256 * 4);
        same("11 the rest of a rule", n.decides(3), ALL / 4);
        same("11 what is left", n.decides(4), ALL / 4);
        same("11 a note behind all", n.decides(5), 0);
        CHECK.outOfBounds("11 no rule", n, () -> n.decides(6));
        CHECK.outOfBounds("11 rule -1", n, () -> n.decides(-1));
        Nettle one = new Nettle();
        add(one, DENY, 0, 255, 255, 1, 255, 255, 2, 1023, 1023, 3, 3, 3);
        one.rule(ALLOW);
        same("11 one packet", one.decides(0), 1);
        same("11 all others", one.decides(1), ALL - 1);
        one.move(0, 1);
        same("11 decides all", one.decides(0), ALL);
        same("11 decides none", one.decides(1), 0);
    }

    private static void promise12() {
        Nettle n = new Nettle();
        add(n, ALLOW, 0, 0, 9, 1, 0, 9);
        add(n, DENY, 0, 0, 99);
        add(n, ALLOW, 0, 50, 149);
        add(n, NOTE);
        same("12 by rules", n.allowed(), 100 * 4096 + 50 * 256 * 4096);
        n.setLast(true);
        same("12 by the last word", n.allowed(), 100 * 4096 + 156 * 256 * 4096);
        n.send(20, 1, 0, 0);
        n.send(1, 20, 0, 0);
        n.send(20, 1, 0, 1);
        same("12 not by those kept", n.allowed(), 100 * 4096 + 156 * 256 * 4096);
    }

    private static void promise13() {
        Nettle n = new Nettle();
        add(n, DENY, 0, 0, 99);
        add(n, NOTE, 0, 0, 255);
        add(n, ALLOW, 0, 10, 200);
        add(n, ALLOW, 0, 20, 30);
        add(n, ALLOW, 0, 100, 110);
        add(n, NOTE, 0, 5, 150);
        add(n, NOTE, 0, 200, 201);
        add(n, DENY, 0, 201, 255);
        same("13 first rule", n.state(0), 0);
        same("13 a note behind one", n.state(1), 0);
        same("13 second rule", n.state(2), 0);
        same("13 covered first by another verdict", n.state(3), 2);
        same("13 covered by the same verdict", n.state(4), 1);
        same("13 a note dead by two", n.state(5), 3);
        same("13 a note partly", n.state(6), 0);
        same("13 needless by the last word", n.state(7), 4);
        n.setLast(true);
        same("13 needed with another last word", n.state(7), 0);
        same("13 an allow above the last word is needless", n.state(2), 4);
        n.narrow(5, 0, 100, 110);
        same("13 a note covered", n.state(5), 2);
        n.move(1, 7);
        same("13 a note behind all, dead by three", n.state(7), 3);
        CHECK.outOfBounds("13 no rule", n, () -> n.state(8));
        CHECK.outOfBounds("13 rule -1", n, () -> n.state(-1));
        Nettle between = new Nettle();
        add(between, ALLOW, 0, 10, 20);
        add(between, DENY, 0, 15, 30);
        add(between, ALLOW, 0, 0, 40);
        same("13 another one stands between", between.state(0), 0);
        between.narrow(0, 0, 10, 14);
        same("13 needless: the later one does it", between.state(0), 4);
        between.narrow(1, 0, 10, 14);
        same("13 dead by the same range", between.state(1), 2);
    }

    private static void promise14() {
        Nettle n = new Nettle();
        add(n, NOTE);
        add(n, DENY, 0, 10, 20, 2, 10, 20);
        add(n, ALLOW, 0, 5, 30);
        add(n, ALLOW, 0, 10, 20, 2, 10, 20);
        add(n, NOTE, 0, 5, 30, 1, 7, 7);
        add(n, DENY, 0, 5, 31);
        add(n, DENY, 0, 4, 30);
        add(n, DENY);
        same("14 none ahead", n.coveredBy(0), -1);
        same("14 not by a note", n.coveredBy(1), -1);
        same("14 not by one behind", n.coveredBy(2), -1);
        same("14 the first of two, the same ranges", n.coveredBy(3), 1);
        same("14 a note too", n.coveredBy(4), 2);
        same("14 one value too high", n.coveredBy(5), -1);
        same("14 one value too low", n.coveredBy(6), -1);
        same("14 whole", n.coveredBy(7), -1);
        n.move(7, 0);
        same("14 by a whole one", n.coveredBy(7), 0);
        CHECK.outOfBounds("14 no rule", n, () -> n.coveredBy(8));
        CHECK.outOfBounds("14 rule -1", n, () -> n.coveredBy(-1));
        for (int f = 0; f < 4; f++) {
            Nettle one = new Nettle();
            add(one, DENY, f, 1, 2);
            add(one, DENY, f, 1, 3);
            same("14 each field counts", one.coveredBy(1), -1);
            one.narrow(0, f, 0, 3);
            same("14 each field counts", one.coveredBy(1), 0);
        }
    }

    private static void promise15() {
        Nettle n = new Nettle();
        add(n, ALLOW, 0, 0, 10, 1, 5, 5);
        add(n, NOTE, 0, 10, 20, 2, 1000, 1023);
        add(n, DENY, 0, 11, 11);
        n.rule(DENY);
        same("15 one value of FROM and of TO", n.shared(0, 1), 24 * 4);
        same("15 the other way round", n.shared(1, 0), 24 * 4);
        same("15 nothing", n.shared(0, 2), 0);
        same("15 itself", n.shared(0, 0), 11 * 4096);
        same("15 a rule ahead takes nothing", n.shared(2, 3), 256 * 4096);
        same("15 all", n.shared(3, 3), ALL);
        CHECK.outOfBounds("15 no a", n, () -> n.shared(4, 0));
        CHECK.outOfBounds("15 no b", n, () -> n.shared(0, 4));
        CHECK.outOfBounds("15 a -1", n, () -> n.shared(-1, 0));
        CHECK.outOfBounds("15 b -1", n, () -> n.shared(0, -1));
        Nettle apart = new Nettle();
        add(apart, ALLOW, 0, 0, 9, 1, 0, 9);
        add(apart, ALLOW, 0, 50, 59, 1, 50, 59);
        same("15 apart in two fields", apart.shared(0, 1), 0);
    }

    private static void promise16() {
        Nettle n = new Nettle();
        add(n, ALLOW, 0, 0, 10);
        add(n, DENY, 0, 10, 20);
        add(n, ALLOW, 0, 21, 30);
        add(n, NOTE);
        add(n, DENY);
        same("16 touching, and with the whole one", n.quarrels(), 3);
        n.narrow(1, 0, 11, 20);
        same("16 beside each other", n.quarrels(), 2);
        n.turn(3, ALLOW);
        same("16 no note any more", n.quarrels(), 4);
        n.turn(4, NOTE);
        same("16 a note", n.quarrels(), 1);
        Nettle apart = new Nettle();
        add(apart, ALLOW, 0, 0, 9, 1, 0, 9);
        add(apart, DENY, 0, 50, 59, 1, 50, 59);
        same("16 apart in two fields", apart.quarrels(), 0);
        Nettle dead = new Nettle();
        dead.rule(ALLOW);
        dead.rule(DENY);
        dead.rule(DENY);
        same("16 dead ones too", dead.quarrels(), 2);
    }

    private static void promise17() {
        Nettle n = new Nettle();
        add(n, NOTE);
        add(n, ALLOW, 0, 10, 20, 1, 30, 40, 2, 50, 60, 3, 1, 2);
        add(n, DENY, 0, 20, 25);
        same("17 the least of all", n.decider(10, 30, 50, 1), 1);
        same("17 the greatest of all", n.decider(20, 40, 60, 2), 1);
        same("17 behind FROM", n.decider(21, 40, 60, 2), 2);
        same("17 ahead of FROM", n.decider(9, 40, 60, 2), -1);
        same("17 ahead of TO", n.decider(10, 29, 60, 2), -1);
        same("17 behind TO", n.decider(10, 41, 60, 2), -1);
        same("17 ahead of PORT", n.decider(10, 40, 49, 2), -1);
        same("17 behind PORT", n.decider(10, 40, 61, 2), -1);
        same("17 ahead of KIND", n.decider(10, 40, 60, 0), -1);
        same("17 behind KIND", n.decider(10, 40, 60, 3), -1);
        same("17 greatest packet", n.decider(255, 255, 1023, 3), -1);
        wrongPackets("17 decider", n, n::decider);
    }

    private interface OfPacket {
        int make(int from, int to, int port, int kind);
    }

    private static void wrongPackets(String what, Nettle n, OfPacket call) {
        CHECK.illegal(what + " FROM 256", n, () -> call.make(256, 0, 0, 0));
        CHECK.illegal(what + " FROM -1", n, () -> call.make(-1, 0, 0, 0));
        CHECK.illegal(what + " TO 256", n, () -> call.make(0, 256, 0, 0));
        CHECK.illegal(what + " TO -1", n, () -> call.make(0, -1, 0, 0));
        CHECK.illegal(what + " PORT 1024", n, () -> call.make(0, 0, 1024, 0));
        CHECK.illegal(what + " PORT -1", n, () -> call.make(0, 0, -1, 0));
        CHECK.illegal(what + " KIND 4", n, () -> call.make(0, 0, 0, 4));
        CHECK.illegal(what + " KIND -1", n, () -> call.make(0, 0, 0, -1));
    }

    /** Its TREE has four NODES; the last one leads back to an earlier one. */
    private static Nettle twoByTwo() {
        Nettle n = new Nettle();
        add(n, ALLOW, 0, 10, 19, 1, 100, 109);
        add(n, ALLOW, 1, 50, 59, 2, 90, 90);
        return n;
    }

    private static void promise18() {
        Nettle n = new Nettle();
        same("18 none", n.nodes(), 0);
        n.rule(DENY);
        same("18 a whole rule", n.nodes(), 0);
        n.narrow(0, 3, 0, 2);
        same("18 down to KIND", n.nodes(), 4);
        n.narrow(0, 3, 0, 3);
        n.narrow(0, 0, 0, 254);
        same("18 FROM alone", n.nodes(), 1);
        n.turn(0, NOTE);
        same("18 no notes", n.nodes(), 0);
        same("18 the same is one", twoByTwo().nodes(), 4);
        Nettle behind = new Nettle();
        behind.rule(ALLOW);
        add(behind, DENY, 0, 3, 3);
        same("18 behind a whole rule", behind.nodes(), 0);
        behind.move(0, 1);
        same("18 ahead of a whole rule", behind.nodes(), 1);
    }

    private static void promise19() {
        Nettle n = twoByTwo();
        int[][] due = {{0, 3, 3}, {1, 2, 3}, {2, 2, 3}, {1, 3, 5}};
        for (int node = 0; node < 4; node++) {
            for (int what = 0; what <= 2; what++) {
                same("19 node " + node + " what " + what, n.ofNode(node, what), due[node][what]);
            }
        }
        CHECK.outOfBounds("19 no node", n, () -> n.ofNode(4, 0));
        CHECK.outOfBounds("19 node -1", n, () -> n.ofNode(-1, 0));
        CHECK.illegal("19 what 3", n, () -> n.ofNode(0, 3));
        CHECK.illegal("19 what -1", n, () -> n.ofNode(0, -1));
        CHECK.outOfBounds("19 node first", n, () -> n.ofNode(4, 3));
        Nettle noted = new Nettle();
        noted.rule(NOTE);
        add(noted, DENY, 3, 1, 1);
        same("19 the numbers with the notes", noted.ofNode(0, 1), 2);
        same("19 one piece", noted.ofNode(2, 2), 1);
        same("19 three pieces", noted.ofNode(3, 2), 3);
        Nettle none = new Nettle();
        CHECK.outOfBounds("19 no nodes", none, () -> none.ofNode(0, 0));
        Nettle inner = new Nettle();
        add(inner, ALLOW, 0, 5, 9, 2, 1, 1);
        add(inner, DENY, 0, 5, 9);
        inner.rule(ALLOW);
        same("19 rules behind stay in the set", inner.ofNode(1, 1), 7);
        inner.copy();
        inner.narrow(2, 0, 0, 6);
        same("19 a cut of one rule alone", inner.ofNode(0, 2), 4);
        inner.copy();
        inner.narrow(2, 0, 0, 255);
        same("19 cuts of the copy are none", inner.ofNode(0, 2), 3);
    }

    private static void promise20() {
        Nettle n = twoByTwo();
        int[][][] due = {
            {{0, 9, 1}, {10, 19, 3}, {20, 255, 1}},
            {{0, 49, -1}, {50, 59, 2}, {60, 255, -1}},
            {{0, 89, -1}, {90, 90, -3}, {91, 1023, -1}},
            {{0, 49, -1}, {50, 59, 2}, {60, 99, -1}, {100, 109, -2}, {110, 255, -1}},
        };
        for (int node = 0; node < 4; node++) {
            for (int piece = 0; piece < due[node].length; piece++) {
                for (int what = 0; what <= 2; what++) {
                    same("20 node " + node + " piece " + piece + " what " + what,
                            n.piece(node, piece, what), due[node][piece][what]);
                }
            }
        }
        CHECK.outOfBounds("20 no node", n, () -> n.piece(4, 0, 0));
        CHECK.outOfBounds("20 node -1", n, () -> n.piece(-1, 0, 0));
        CHECK.outOfBounds("20 no piece", n, () -> n.piece(0, 3, 0));
        CHECK.outOfBounds("20 piece -1", n, () -> n.piece(0, -1, 0));
        CHECK.illegal("20 what 3", n, () -> n.piece(0, 0, 3));
        CHECK.illegal("20 what -1", n, () -> n.piece(0, 0, -1));
        CHECK.outOfBounds("20 piece first", n, () -> n.piece(0, 3, 3));
        CHECK.outOfBounds("20 node first", n, () -> n.piece(4, 0, -1));
        n.copy();
        n.narrow(0, 0, 0, 255);
        same("20 a whole FIELD is one piece", n.piece(0, 0, 1), 255);
        Nettle seen = new Nettle();
        add(seen, ALLOW, 3, 3, 3);
        seen.rule(DENY);
        same("20 down to KIND", seen.piece(3, 0, 2), -3);
        same("20 the last kind", seen.piece(3, 1, 2), -2);
        same("20 its value", seen.piece(3, 1, 0), 3);
        same("20 its value", seen.piece(3, 1, 1), 3);
    }

    private static void promise21() {
        Nettle n = twoByTwo();
        same("21 to the last word", n.steps(0, 0, 90, 0), 2);
        same("21 to a rule", n.steps(10, 100, 0, 0), 2);
        same("21 through three", n.steps(19, 59, 91, 3), 3);
        same("21 through three", n.steps(20, 50, 90, 0), 3);
        wrongPackets("21 steps", n, n::steps);
        Nettle none = new Nettle();
        same("21 none", none.steps(255, 255, 1023, 3), 0);
        add(none, DENY, 3, 0, 0);
        same("21 four", none.steps(255, 255, 1023, 3), 4);
        none.turn(0, NOTE);
        same("21 notes make no nodes", none.steps(0, 0, 0, 0), 0);
        add(none, ALLOW, 0, 7, 7);
        none.rule(DENY);
        same("21 one", none.steps(7, 0, 0, 0), 1);
        same("21 one to a whole rule", none.steps(8, 0, 0, 0), 1);
    }

    private static void promise22() {
        Nettle n = new Nettle();
        CHECK.same("22 none", n.meanSteps(), 0.0);
        CHECK.same("22 not cut", twoByTwo().meanSteps(), 2.0390625);
        add(n, ALLOW, 3, 0, 0);
        CHECK.same("22 four", n.meanSteps(), 4.0);
        n.narrow(0, 0, 0, 0);
        CHECK.same("22 mostly one", n.meanSteps(), 1.01171875);
        n.narrow(0, 1, 0, 0);
        n.narrow(0, 2, 0, 0);
        CHECK.same("22 the least difference", n.meanSteps(), 1.0 + 1.0 / 256 + 1.0 / 65536 + 1.0 / 67108864);
        n.setLast(true);
        n.turn(0, NOTE);
        CHECK.same("22 notes", n.meanSteps(), 0.0);
    }

    private static void promise23() {
        Nettle n = new Nettle();
        add(n, ALLOW, 2, 80, 80);
        same("23 denied by the last word", n.send(1, 2, 81, 0), 0);
        same("23 an answer to what was denied", n.send(2, 1, 81, 1), 0);
        same("23 allowed", n.send(1, 2, 80, 0), 1);
        n.turn(0, DENY);
        same("23 denied by a rule", n.send(1, 2, 80, 0), 0);
        same("23 a denied one does not go from those kept", n.sent(3), 1);
        same("23 remembered", n.send(2, 1, 80, 1), 2);
        same("23 as often as it comes", n.send(2, 1, 80, 1), 2);
        same("23 not the same way", n.send(1, 2, 80, 1), 0);
        same("23 another port", n.send(2, 1, 79, 1), 0);
        same("23 another from", n.send(3, 1, 80, 1), 0);
        same("23 another to", n.send(2, 3, 80, 1), 0);
        for (int kind = 0; kind < 4; kind++) {
            same("23 kind " + kind, n.send(2, 1, 80, kind), kind == 1 ? 2 : 0);
        }
        n.setLast(true);
        same("23 an answer is not kept", n.send(9, 9, 9, 1), 1);
        same("23 other kinds are not kept", n.send(9, 9, 9, 2) + n.send(9, 9, 9, 3), 2);
        same("23 only one is kept", n.sent(3), 1);
        same("23 by the last word", n.send(9, 9, 9, 0), 1);
        same("23 is kept", n.sent(3), 2);
        wrongPackets("23 send", n, n::send);
    }

    private static String hits(Nettle n) {
        StringBuilder text = new StringBuilder();
        for (int rule = 0; rule < n.rules(); rule++) {
            text.append(n.ofRule(rule, 9));
        }
        return text.toString();
    }

    private static void promise23Hits() {
        Nettle n = new Nettle();
        add(n, NOTE, 0, 0, 9);
        add(n, ALLOW, 1, 0, 9);
        add(n, NOTE, 0, 5, 20);
        add(n, DENY, 2, 0, 9);
        add(n, NOTE);
        n.send(0, 0, 0, 0);
        CHECK.same("23 the note ahead and the rule", hits(n), "11000");
        n.send(5, 10, 5, 0);
        CHECK.same("23 two notes and the rule", hits(n), "21110");
        n.send(30, 30, 30, 0);
        CHECK.same("23 the last word: notes everywhere", hits(n), "21111");
        n.send(0, 0, 0, 1);
        CHECK.same("23 remembered hits none", hits(n), "21111");
        n.send(0, 0, 0, 2);
        CHECK.same("23 again", hits(n), "32111");
        n.decider(0, 0, 0, 0);
        n.steps(0, 0, 0, 0);
        n.changedByMove(0, 1);
        CHECK.same("23 only packets that are sent", hits(n), "32111");
    }

    private static void promise24() {
        Nettle n = new Nettle();
        add(n, ALLOW, 0, 0, 9);
        add(n, DENY, 0, 10, 19);
        n.send(0, 20, 0, 0);
        n.send(10, 0, 0, 0);
        n.send(20, 0, 0, 1);
        n.send(20, 0, 1, 1);
        n.send(0, 20, 0, 0);
        n.send(0, 21, 0, 2);
        same("24 sent", n.sent(0), 6);
        same("24 allowed", n.sent(1), 4);
        same("24 remembered", n.sent(2), 1);
        same("24 kept", n.sent(3), 1);
        same("24 by the last word", n.sent(4), 1);
        n.setLast(true);
        n.send(255, 0, 0, 3);
        same("24 allowed by the last word", n.sent(1), 5);
        same("24 by the last word, allowed", n.sent(4), 2);
        n.forget();
        same("24 kept now", n.sent(3), 0);
        same("24 sent stays", n.sent(0), 7);
        CHECK.illegal("24 what 5", n, () -> n.sent(5));
        CHECK.illegal("24 what -1", n, () -> n.sent(-1));
        CHECK.illegal("24 not a packet", n, () -> n.send(256, 0, 0, 0));
        same("24 a wrong one is not sent", n.sent(0), 7);
    }

    private static String keptText(Nettle n) {
        StringBuilder text = new StringBuilder();
        for (int place = 0; place < n.sent(3); place++) {
            text.append(n.kept(place, 0)).append('-').append(n.kept(place, 1));
            text.append(':').append(n.kept(place, 2)).append(' ');
        }
        return text.toString();
    }

    private static void promise25() {
        Nettle n = new Nettle();
        n.rule(ALLOW);
        n.send(1, 2, 3, 0);
        n.send(2, 1, 3, 0);
        n.send(1, 2, 4, 0);
        CHECK.same("25 in their order", keptText(n), "1-2:3 2-1:3 1-2:4 ");
        n.send(1, 2, 3, 0);
        CHECK.same("25 one kept already comes to the end", keptText(n), "2-1:3 1-2:4 1-2:3 ");
        n.send(1, 2, 3, 0);
        CHECK.same("25 the last one stays there", keptText(n), "2-1:3 1-2:4 1-2:3 ");
        for (int from = 11; from <= 15; from++) {
            n.send(from, 255, 1023, 0);
        }
        same("25 eight", n.sent(3), 8);
        n.send(1, 2, 4, 0);
        CHECK.same("25 one of eight comes to the end", keptText(n),
                "2-1:3 1-2:3 11-255:1023 12-255:1023 13-255:1023 14-255:1023 15-255:1023 1-2:4 ");
        n.send(16, 255, 1023, 0);
        CHECK.same("25 a ninth one", keptText(n),
                "1-2:3 11-255:1023 12-255:1023 13-255:1023 14-255:1023 15-255:1023 1-2:4 16-255:1023 ");
        n.send(255, 16, 1023, 1);
        CHECK.same("25 remembering moves nothing", keptText(n),
                "1-2:3 11-255:1023 12-255:1023 13-255:1023 14-255:1023 15-255:1023 1-2:4 16-255:1023 ");
        n.turn(0, DENY);
        same("25 the one gone is not remembered", n.send(1, 2, 3, 1), 0);
        same("25 those kept are", n.send(2, 1, 3, 1), 2);
        CHECK.outOfBounds("25 no place", n, () -> n.kept(8, 0));
        CHECK.outOfBounds("25 place -1", n, () -> n.kept(-1, 0));
        CHECK.illegal("25 field 3", n, () -> n.kept(7, 3));
        CHECK.illegal("25 field -1", n, () -> n.kept(0, -1));
        CHECK.outOfBounds("25 place first", n, () -> n.kept(8, 3));
        Nettle none = new Nettle();
        CHECK.outOfBounds("25 none", none, () -> none.kept(0, 0));
    }

    private static void promise26() {
        Nettle n = new Nettle();
        same("26 none", n.forget(), 0);
        n.setLast(true);
        n.send(1, 2, 3, 0);
        n.send(2, 2, 3, 0);
        same("26 two", n.forget(), 2);
        same("26 none any more", n.sent(3), 0);
        same("26 not remembered", n.send(2, 1, 3, 1), 1);
        same("26 again none", n.forget(), 0);
        CHECK.outOfBounds("26 no place", n, () -> n.kept(0, 0));
        n.send(5, 6, 7, 0);
        CHECK.same("26 a new first one", keptText(n), "5-6:7 ");
    }

    private static void promise27() {
        Nettle n = new Nettle();
        same("27 none", n.copy(), 0);
        add(n, ALLOW, 0, 0, 9);
        add(n, NOTE);
        same("27 two, notes too", n.copy(), 2);
        same("27 as it is", n.changed(), 0);
        n.narrow(0, 0, 0, 99);
        same("27 the copy stays as it was", n.changed(), 90 * 256 * 4096);
        n.copy();
        n.send(0, 0, 0, 0);
        same("27 how often they were hit is none of it", n.changed(), 0);
        n.drop(0);
        same("27 a rule dropped", n.changed(), 100 * 256 * 4096);
        n.setLast(true);
        same("27 the last word", n.changed(), 156 * 256 * 4096);
        same("27 fewer", n.copy(), 1);
        same("27 with its last word", n.changed(), 0);
        for (int rule = 1; rule < 8; rule++) {
            n.rule(DENY);
        }
        same("27 eight", n.copy(), 8);
    }

    private static void promise28() {
        Nettle n = new Nettle();
        n.setLast(true);
        same("28 all", n.changed(), ALL);
        add(n, DENY, 0, 0, 63);
        same("28 all but a quarter", n.changed(), ALL / 4 * 3);
        n.copy();
        add(n, DENY, 0, 0, 63);
        n.rule(ALLOW);
        same("28 other rules, the same verdicts", n.changed(), 0);
        n.move(2, 0);
        same("28 by the order", n.changed(), ALL / 4);
        n.turn(0, NOTE);
        same("28 notes change nothing", n.changed(), 0);
        add(n, DENY, 0, 255, 255, 1, 255, 255, 2, 1023, 1023, 3, 3, 3);
        same("28 one packet", n.changed(), 1);
        n.copy();
        n.turn(3, ALLOW);
        same("28 the other way", n.changed(), 1);
        Nettle both = new Nettle();
        add(both, ALLOW, 0, 0, 9);
        both.copy();
        both.narrow(0, 0, 5, 14);
        same("28 both ways", both.changed(), 10 * 256 * 4096);
    }

    private static void witnessIs(String what, Nettle n, int from, int to, int port, int kind) {
        int[] due = {from, to, port, kind};
        for (int field = 0; field < 4; field++) {
            same(what + " field " + field, n.witness(field), due[field]);
        }
    }

    private static void promise29() {
        Nettle n = new Nettle();
        witnessIs("29 none", n, -1, -1, -1, -1);
        add(n, ALLOW, 0, 50, 60, 1, 5, 6, 2, 7, 8, 3, 2, 3);
        witnessIs("29 one block", n, 50, 5, 7, 2);
        add(n, ALLOW, 0, 60, 70, 1, 0, 1);
        witnessIs("29 FROM counts first", n, 50, 5, 7, 2);
        n.narrow(1, 0, 50, 50);
        witnessIs("29 then TO", n, 50, 0, 0, 0);
        n.narrow(1, 1, 5, 9);
        n.narrow(1, 2, 9, 9);
        witnessIs("29 then PORT", n, 50, 5, 7, 2);
        n.narrow(1, 2, 7, 7);
        n.narrow(1, 3, 1, 1);
        witnessIs("29 then KIND", n, 50, 5, 7, 1);
        n.copy();
        witnessIs("29 none again", n, -1, -1, -1, -1);
        n.setLast(true);
        witnessIs("29 the first of all", n, 0, 0, 0, 0);
        n.copy();
        add(n, DENY, 0, 255, 255, 1, 255, 255, 2, 1023, 1023, 3, 3, 3);
        witnessIs("29 the last of all", n, 255, 255, 1023, 3);
        CHECK.illegal("29 field 4", n, () -> n.witness(4));
        CHECK.illegal("29 field -1", n, () -> n.witness(-1));
    }

    private static void promise30() {
        Nettle n = new Nettle();
        add(n, ALLOW, 0, 0, 99);
        add(n, DENY, 0, 50, 149);
        add(n, ALLOW, 0, 0, 199);
        add(n, NOTE);
        same("30 without the first", n.allowedWithout(0), 100 * 256 * 4096);
        same("30 without the second", n.allowedWithout(1), 200 * 256 * 4096);
        same("30 without the third", n.allowedWithout(2), 100 * 256 * 4096);
        same("30 without a note", n.allowedWithout(3), 150 * 256 * 4096);
        same("30 is as it was", n.allowed(), 150 * 256 * 4096);
        n.setLast(true);
        same("30 with another last word", n.allowedWithout(2), 206 * 256 * 4096);
        same("30 nothing is dropped", n.rules(), 4);
        CHECK.outOfBounds("30 no rule", n, () -> n.allowedWithout(4));
        CHECK.outOfBounds("30 rule -1", n, () -> n.allowedWithout(-1));
    }

    private static void promise31() {
        Nettle n = new Nettle();
        add(n, ALLOW, 0, 0, 99);
        add(n, DENY, 0, 50, 149);
        add(n, ALLOW, 0, 100, 199);
        add(n, NOTE);
        same("31 over the next", n.changedByMove(0, 1), 50 * 256 * 4096);
        same("31 ahead of the one before", n.changedByMove(1, 0), 50 * 256 * 4096);
        same("31 behind the next", n.changedByMove(1, 2), 50 * 256 * 4096);
        same("31 ahead of the one before", n.changedByMove(2, 1), 50 * 256 * 4096);
        same("31 to the front", n.changedByMove(2, 0), 50 * 256 * 4096);
        same("31 to the end", n.changedByMove(0, 3), 50 * 256 * 4096);
        same("31 over a note", n.changedByMove(2, 3), 0);
        same("31 a note", n.changedByMove(3, 0), 0);
        same("31 nowhere", n.changedByMove(1, 1), 0);
        CHECK.outOfBounds("31 no rule", n, () -> n.changedByMove(4, 0));
        CHECK.outOfBounds("31 rule -1", n, () -> n.changedByMove(-1, 0));
        CHECK.outOfBounds("31 no number", n, () -> n.changedByMove(0, 4));
        CHECK.outOfBounds("31 number -1", n, () -> n.changedByMove(0, -1));
        for (int rule = 0; rule < 4; rule++) {
            for (int to = 0; to < 4; to++) {
                Nettle moved = new Nettle();
                add(moved, ALLOW, 0, 0, 99);
                add(moved, DENY, 0, 50, 149, 2, 3, 7);
                add(moved, ALLOW, 0, 70, 199);
                add(moved, DENY, 1, 9, 99);
                moved.setLast(true);
                moved.copy();
                String before = Look.at(moved);
                int would = moved.changedByMove(rule, to);
                CHECK.same("31 nothing is changed", Look.at(moved), before);
                moved.move(rule, to);
                same("31 as it is then " + rule + " " + to, would, moved.changed());
            }
        }
    }

    /** Each NODE is asked of an object of its own: a TREE takes many calls. */
    private static long digestOfAnswers(Supplier<Nettle> made) {
        Nettle n = made.get();
        List<Integer> told = new ArrayList<>();
        told.add(n.rules());
        for (int rule = 0; rule < n.rules(); rule++) {
            for (int what = 0; what <= 9; what++) {
                told.add(n.ofRule(rule, what));
            }
            told.addAll(List.of(n.decides(rule), n.state(rule), n.coveredBy(rule), n.allowedWithout(rule)));
        }
        told.addAll(List.of(n.allowed(), n.quarrels(), n.nodes()));
        for (int node = 0; node < Math.min(20, n.nodes()); node++) {
            tellNode(told, made.get(), node);
        }
        for (int what = 0; what <= 4; what++) {
            told.add(n.sent(what));
        }
        for (int place = 0; place < n.sent(3); place++) {
            told.addAll(List.of(n.kept(place, 0), n.kept(place, 1), n.kept(place, 2)));
        }
        told.addAll(List.of(n.changed(), n.witness(0), n.witness(1), n.witness(2), n.witness(3)));
        long d = 58082;
        for (int x : told) {
            d = d * 31 + x;
        }
        return d;
    }

    private static void tellNode(List<Integer> told, Nettle n, int node) {
        told.addAll(List.of(n.ofNode(node, 0), n.ofNode(node, 1), n.ofNode(node, 2)));
        for (int piece = 0; piece < n.ofNode(node, 2); piece++) {
            told.addAll(List.of(n.piece(node, piece, 0), n.piece(node, piece, 1), n.piece(node, piece, 2)));
        }
    }

    private static Nettle sentThrough() {
        Nettle n = twoByTwo();
        add(n, NOTE, 3, 0, 0);
        n.send(10, 100, 5, 0);
        n.send(100, 10, 5, 1);
        return n;
    }

    private static Nettle manyNodes() {
        Nettle many = new Nettle();
        for (int rule = 0; rule < 6; rule++) {
            int low = rule * 9;
            add(many, rule % 2, 0, low, 200 + low, 1, 50 - low, 250 - low, 2, low, 900, 3, rule % 3, 2);
        }
        return many;
    }

    private static void promise32() {
        long empty = 58082;
        int[] numbers = {0, 0, 0, 0, 0, 0, 0, 0, 0, 0, -1, -1, -1, -1};
        for (int x : numbers) {
            empty = empty * 31 + x;
        }
        same("32 a new object", new Nettle().digest(), empty);
        same("32 of a few rules", sentThrough().digest(), digestOfAnswers(PromiseTest::sentThrough));
        Nettle many = manyNodes();
        CHECK.same("32 more than twenty nodes", many.nodes() > 20, true);
        same("32 of many nodes", many.digest(), digestOfAnswers(PromiseTest::manyNodes));
        same("32 again", many.digest(), digestOfAnswers(PromiseTest::manyNodes));
    }
}
