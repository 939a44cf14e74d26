/** Objects for the tests, each made anew, and numbers for their calls. */
final class Walls {
    static final int DENY = 0;
    static final int ALLOW = 1;
    static final int NOTE = 2;
    static final int FROM = 0;
    static final int TO = 1;
    static final int PORT = 2;
    static final int KIND = 3;
    static final int[] SIZES = {256, 256, 1024, 4};
    static final int ALL = 268435456;
    /** How many PACKETS have one FROM, and how many have one FROM and one TO. */
    static final int OF_FROM = 1048576;
    static final int OF_PAIR = 4096;
    static final String WHOLE = " 0 255 0 255 0 1023 0 3 0";

    private Walls() {
    }

    /** Adds a RULE with RANGES, each told as a FIELD, its low and its high. */
    static int add(Nettle n, int verdict, int... ranges) {
        int rule = n.rule(verdict);
        for (int i = 0; i + 2 < ranges.length; i += 3) {
            n.narrow(rule, ranges[i], ranges[i + 1], ranges[i + 2]);
        }
        return rule;
    }

    /** WHOLE RULES with these VERDICTS. */
    static Nettle whole(int... verdicts) {
        Nettle n = new Nettle();
        for (int verdict : verdicts) {
            n.rule(verdict);
        }
        return n;
    }

    static Nettle oneRule() {
        return whole(ALLOW);
    }

    /** As many NOTES, each with its number as its only FROM. */
    static Nettle row(int count) {
        Nettle n = new Nettle();
        for (int rule = 0; rule < count; rule++) {
            add(n, NOTE, FROM, rule, rule);
        }
        return n;
    }

    /** The FROM with which each RULE begins, and a * behind it if it was HIT. */
    static String order(Nettle n) {
        StringBuilder text = new StringBuilder();
        for (int rule = 0; rule < n.rules(); rule++) {
            text.append(n.ofRule(rule, 1)).append(n.ofRule(rule, 9) == 0 ? "" : "*");
        }
        return text.toString();
    }

    /** Four RULES that together MEET all PACKETS but the last one: 255, 255, 1023, 3. */
    static void addAllButTheLast(Nettle n, int verdict) {
        for (int field = 0; field < 4; field++) {
            add(n, verdict, field, 0, SIZES[field] - 2);
        }
    }

    /** A RULE that MEETS the last PACKET alone. */
    static int addTheLast(Nettle n, int verdict) {
        return add(n, verdict, FROM, 255, 255, TO, 255, 255, PORT, 1023, 1023, KIND, 3, 3);
    }

    /** Five RULES that were HIT, two PACKETS that are kept, a COPY of other RULES, the LAST WORD ALLOW in both. */
    static Nettle used() {
        Nettle n = new Nettle();
        n.setLast(true);
        add(n, DENY, FROM, 10, 20);
        n.copy();
        add(n, NOTE, TO, 5, 9);
        add(n, ALLOW, FROM, 15, 30, KIND, 0, 2);
        add(n, DENY, PORT, 80, 90);
        n.rule(ALLOW);
        n.send(25, 7, 80, 0);
        n.send(40, 50, 60, 0);
        n.send(50, 40, 60, 1);
        n.send(12, 7, 80, 2);
        return n;
    }

    /** Eight RULES, eight PACKETS that are kept, a COPY of seven RULES, and the LAST WORD DENY in both. */
    static Nettle full() {
        Nettle n = new Nettle();
        for (int rule = 0; rule < 8; rule++) {
            if (rule == 7) {
                n.copy();
            }
            add(n, rule % 3, FROM, rule * 20, rule * 20 + 30, PORT, rule, 1000 + rule);
            n.send(rule * 20 + 25, rule, 500, 0);
        }
        n.setLast(true);
        for (int to = 0; to < 8; to++) {
            n.send(255, to, to, 0);
        }
        n.setLast(false);
        return n;
    }

    /** Its TREE has four NODES; the last one leads back to the one ahead of it. */
    static Nettle twoByTwo() {
        Nettle n = new Nettle();
        add(n, ALLOW, FROM, 10, 19, TO, 100, 109);
        add(n, ALLOW, TO, 50, 59, PORT, 90, 90);
        return n;
    }

    /** Numbers that none has, if they are numbered from 0 and there are so many. */
    static int[] noNumbers(int count) {
        return new int[] {-1, -2, count, count + 1, count + 256, Integer.MAX_VALUE, Integer.MIN_VALUE};
    }

    /** Numbers that are no VALUES, some of them with the last bits of one. */
    static int[] noValues(int field) {
        int size = SIZES[field];
        return new int[] {-1, -size, size, size + 1, 65536, Integer.MAX_VALUE, Integer.MIN_VALUE};
    }

    /** The first PACKET of all but for one FIELD. */
    static int[] packet(int field, int value) {
        int[] packet = new int[4];
        packet[field] = value;
        return packet;
    }

    static int decider(Nettle n, int[] packet) {
        return n.decider(packet[0], packet[1], packet[2], packet[3]);
    }

    static int steps(Nettle n, int[] packet) {
        return n.steps(packet[0], packet[1], packet[2], packet[3]);
    }

    static int send(Nettle n, int[] packet) {
        return n.send(packet[0], packet[1], packet[2], packet[3]);
    }
}
