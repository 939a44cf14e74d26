/**
 * A compiler for the rules of a wall against the fire.
 *
 * What follows from the RULES (how many PACKETS each decides, the TREE, the
 * comparison with the COPY) is worked out when it is first asked for, and kept
 * until a call changes the RULES, the LAST WORD or the COPY.
 */
public final class Nettle {
    private static final int FIELDS = 4;
    private static final int[] SIZES = {256, 256, 1024, 4};
    /** How many PACKETS there are, told apart by this FIELD and the later ones alone. */
    private static final int[] AMOUNTS = {268435456, 1048576, 4096, 4, 1};
    private static final int MOST_RULES = 8;
    private static final int SETS = 256;
    /** Two walls of eight RULES have two cuts a RULE, and one piece more than cuts. */
    private static final int MOST_SEGMENTS = 33;

    private static final int ALLOW = 1;
    private static final int NOTE = 2;

    private static final int QUESTION_KIND = 0;
    private static final int ANSWER_KIND = 1;
    private static final int REMEMBERED = 2;

    private static final int MOST_KEPT = 8;
    private static final int KEPT_FIELDS = 3;

    private static final int LAST_WORD = -1;

    private static final long DIGEST_START = 58082L;
    private static final long DIGEST_FACTOR = 31L;
    private static final int DIGEST_NODES = 20;

    private final Wall wall;
    private final Wall copied;
    private final Survey survey;
    private final Cuts cuts;
    private final Tree tree;
    private final Comparison comparison;
    private final Log log;
    private final int[] packet;

    public Nettle() {
        wall = new Wall();
        copied = new Wall();
        survey = new Survey(wall);
        cuts = new Cuts(wall, copied);
        tree = new Tree(wall, cuts);
        comparison = new Comparison(wall, copied, cuts);
        log = new Log();
        packet = new int[FIELDS];
    }

    // ---- rules

    public int rule(int verdict) throws IllegalArgumentException, IllegalStateException {
        needVerdict(verdict);
        if (wall.count >= MOST_RULES) {
            throw new IllegalStateException("there are 8 rules");
        }
        wall.add(verdict);
        outdate();
        return wall.count - 1;
    }

    public int narrow(int rule, int field, int low, int high)
            throws IndexOutOfBoundsException, IllegalArgumentException {
        needRule(rule);
        if (field < 0 || field >= FIELDS) {
            throw new IndexOutOfBoundsException("no such field");
        }
        if (!isValue(field, low) || !isValue(field, high) || high < low) {
            throw new IllegalArgumentException("no such range");
        }
        int before = wall.rows[rule].width(field);
        wall.rows[rule].lows[field] = low;
        wall.rows[rule].highs[field] = high;
        outdate();
        return before;
    }

    public int turn(int rule, int verdict) throws IndexOutOfBoundsException, IllegalArgumentException {
        needRule(rule);
        needVerdict(verdict);
        int before = wall.rows[rule].verdict;
        wall.rows[rule].verdict = verdict;
        outdate();
        return before;
    }

    public int move(int rule, int to) throws IndexOutOfBoundsException {
        needRule(rule);
        needRule(to);
        if (rule == to) {
            return 0;
        }
        wall.shift(rule, to);
        outdate();
        return Math.abs(to - rule) + 1;
    }

    public int drop(int rule) throws IndexOutOfBoundsException {
        needRule(rule);
        wall.remove(rule);
        outdate();
        return wall.count;
    }

    public boolean setLast(boolean isAllowed) {
        boolean before = wall.isLastAllow;
        wall.isLastAllow = isAllowed;
        outdate();
        return before;
    }

    public int shrink() {
        int before = wall.count;
        for (int round = 0; round < before; round++) {
            int idle = firstIdle();
            if (idle < 0) {
                break;
            }
            wall.remove(idle);
            outdate();
        }
        return before - wall.count;
    }

    public int rules() {
        return wall.count;
    }

    public int ofRule(int rule, int what) throws IndexOutOfBoundsException, IllegalArgumentException {
        needRule(rule);
        needWhat(what, 9);
        Rule row = wall.rows[rule];
        if (what == 0) {
            return row.verdict;
        }
        if (what == 9) {
            return row.hits;
        }
        int field = (what - 1) / 2;
        return what % 2 == 1 ? row.lows[field] : row.highs[field];
    }

    // ---- what they decide

    public int decides(int rule) throws IndexOutOfBoundsException {
        needRule(rule);
        return surveyed().amountOf(rule);
    }

    public int allowed() {
        return surveyed().amountAllowed(SETS - 1);
    }

    public int state(int rule) throws IndexOutOfBoundsException {
        needRule(rule);
        if (!surveyed().isDead(rule)) {
            return surveyed().isNeedless(rule) ? 4 : 0;
        }
        int cover = wall.firstCover(rule);
        if (cover < 0) {
            return 3;
        }
        return wall.rows[cover].verdict == wall.rows[rule].verdict ? 1 : 2;
    }

    public int coveredBy(int rule) throws IndexOutOfBoundsException {
        needRule(rule);
        return wall.firstCover(rule);
    }

    public int shared(int a, int b) throws IndexOutOfBoundsException {
        needRule(a);
        needRule(b);
        return wall.rows[a].amountWith(wall.rows[b]);
    }

    public int quarrels() {
        int pairs = 0;
        for (int a = 0; a < wall.count; a++) {
            for (int b = a + 1; b < wall.count; b++) {
                if (wall.rows[a].isAgainst(wall.rows[b])) {
                    pairs++;
                }
            }
        }
        return pairs;
    }

    public int decider(int from, int to, int port, int kind) throws IllegalArgumentException {
        takePacket(from, to, port, kind);
        for (int rule = 0; rule < wall.count; rule++) {
            if (!wall.rows[rule].isNote() && wall.rows[rule].meets(packet)) {
                return rule;
            }
        }
        return LAST_WORD;
    }

    // ---- the tree

    public int nodes() {
        return compiled().count;
    }

    public int ofNode(int node, int what) throws IndexOutOfBoundsException, IllegalArgumentException {
        Tree known = compiled();
        needNode(known, node);
        needWhat(what, 2);
        if (what == 0) {
            return known.fieldOf(node);
        }
        return what == 1 ? known.setOf(node) : known.pieceCount(node);
    }

    public int piece(int node, int piece, int what) throws IndexOutOfBoundsException, IllegalArgumentException {
        Tree known = compiled();
        needNode(known, node);
        int segment = known.segmentOf(node, piece);
        if (segment < 0) {
            throw new IndexOutOfBoundsException("no such piece");
        }
        needWhat(what, 2);
        int field = known.fieldOf(node);
        if (what == 0) {
            return cuts.start(field, segment);
        }
        if (what == 1) {
            return cuts.runEnd(field, segment, known.setOf(node)) - 1;
        }
        return known.leadOf(node, segment);
    }

    public int steps(int from, int to, int port, int kind) throws IllegalArgumentException {
        takePacket(from, to, port, kind);
        int set = wall.deciders();
        int passed = 0;
        for (int field = 0; field < FIELDS; field++) {
            if (wall.isSettled(field, set)) {
                break;
            }
            passed++;
            set &= wall.having(field, packet[field]);
        }
        return passed;
    }

    public double meanSteps() {
        return (double) compiled().allSteps() / (double) AMOUNTS[0];
    }

    // ---- packets

    public int send(int from, int to, int port, int kind) throws IllegalArgumentException {
        takePacket(from, to, port, kind);
        if (kind == ANSWER_KIND && log.placeOf(to, from, port) >= 0) {
            log.countRemembered();
            return REMEMBERED;
        }
        int decider = wall.hit(packet);
        boolean isAllowed = decider < 0 ? wall.isLastAllow : wall.rows[decider].verdict == ALLOW;
        log.count(isAllowed, decider < 0);
        if (isAllowed && kind == QUESTION_KIND) {
            log.keep(from, to, port);
        }
        return isAllowed ? 1 : 0;
    }

    public int sent(int what) throws IllegalArgumentException {
        needWhat(what, 4);
        switch (what) {
            case 0:
                return log.all;
            case 1:
                return log.passed;
            case 2:
                return log.remembered;
            case 3:
                return log.size;
            default:
                return log.byLastWord;
        }
    }

    public int kept(int place, int field) throws IndexOutOfBoundsException, IllegalArgumentException {
        if (place < 0 || place >= log.size) {
            throw new IndexOutOfBoundsException("no such place");
        }
        if (field < 0 || field >= KEPT_FIELDS) {
            throw new IllegalArgumentException("no such field of those kept");
        }
        return log.rows[place * KEPT_FIELDS + field];
    }

    public int forget() {
        int before = log.size;
        log.size = 0;
        return before;
    }

    // ---- the copy

    public int copy() {
        copied.takeFrom(wall);
        outdate();
        return copied.count;
    }

    public int changed() {
        return compared().amount;
    }

    public int witness(int field) throws IllegalArgumentException {
        if (field < 0 || field >= FIELDS) {
            throw new IllegalArgumentException("no such field");
        }
        return compared().first[field];
    }

    // ---- what would be (nothing is changed)

    public int allowedWithout(int rule) throws IndexOutOfBoundsException {
        needRule(rule);
        return surveyed().amountAllowed(SETS - 1 - (1 << rule));
    }

    public int changedByMove(int rule, int to) throws IndexOutOfBoundsException {
        needRule(rule);
        needRule(to);
        return surveyed().amountMoved(rule, to);
    }

    public long digest() {
        long d = mix(DIGEST_START, rules());
        for (int rule = 0; rule < wall.count; rule++) {
            d = mixRule(d, rule);
        }
        d = mix(d, allowed());
        d = mix(d, quarrels());
        d = mix(d, nodes());
        int told = Math.min(DIGEST_NODES, nodes());
        for (int node = 0; node < told; node++) {
            d = mixNode(d, node);
        }
        d = mixLog(d);
        d = mix(d, changed());
        for (int field = 0; field < FIELDS; field++) {
            d = mix(d, witness(field));
        }
        return d;
    }

    private static long mix(long d, int x) {
        return d * DIGEST_FACTOR + x;
    }

    private long mixRule(long d, int rule) {
        long mixed = d;
        for (int what = 0; what <= 9; what++) {
            mixed = mix(mixed, ofRule(rule, what));
        }
        mixed = mix(mixed, decides(rule));
        mixed = mix(mixed, state(rule));
        mixed = mix(mixed, coveredBy(rule));
        return mix(mixed, allowedWithout(rule));
    }

    private long mixNode(long d, int node) {
        long mixed = d;
        for (int what = 0; what <= 2; what++) {
            mixed = mix(mixed, ofNode(node, what));
        }
        int pieces = compiled().pieceCount(node);
        for (int piece = 0; piece < pieces; piece++) {
            for (int what = 0; what <= 2; what++) {
                mixed = mix(mixed, piece(node, piece, what));
            }
        }
        return mixed;
    }

    private long mixLog(long d) {
        long mixed = d;
        for (int what = 0; what <= 4; what++) {
            mixed = mix(mixed, sent(what));
        }
        for (int place = 0; place < log.size; place++) {
            for (int field = 0; field < KEPT_FIELDS; field++) {
                mixed = mix(mixed, kept(place, field));
            }
        }
        return mixed;
    }

    // ---- what the calls need

    private void needRule(int rule) {
        if (rule < 0 || rule >= wall.count) {
            throw new IndexOutOfBoundsException("no such rule");
        }
    }

    private static void needNode(Tree tree, int node) {
        if (node < 0 || node >= tree.count) {
            throw new IndexOutOfBoundsException("no such node");
        }
    }

    private static void needVerdict(int verdict) {
        if (verdict < 0 || verdict > NOTE) {
            throw new IllegalArgumentException("no such verdict");
        }
    }

    private static void needWhat(int what, int most) {
        if (what < 0 || what > most) {
            throw new IllegalArgumentException("nothing with this number can be asked");
        }
    }

    private static boolean isValue(int field, int value) {
        return value >= 0 && value < SIZES[field];
    }

    /** One row is used again for every PACKET: a new one a call would fill the room. */
    private void takePacket(int from, int to, int port, int kind) {
        if (!isValue(0, from) || !isValue(1, to) || !isValue(2, port) || !isValue(3, kind)) {
            throw new IllegalArgumentException("no such packet");
        }
        packet[0] = from;
        packet[1] = to;
        packet[2] = port;
        packet[3] = kind;
    }

    private int firstIdle() {
        for (int rule = 0; rule < wall.count; rule++) {
            if (surveyed().isDead(rule) || surveyed().isNeedless(rule)) {
                return rule;
            }
        }
        return -1;
    }

    private void outdate() {
        survey.isFresh = false;
        cuts.isFresh = false;
        tree.isFresh = false;
        comparison.isFresh = false;
    }

    private Survey surveyed() {
        survey.refresh();
        return survey;
    }

    private Tree compiled() {
        cuts.refresh();
        tree.refresh();
        return tree;
    }

    private Comparison compared() {
        cuts.refresh();
        comparison.refresh();
        return comparison;
    }

    /** A RULE: its VERDICT, its RANGES, and how often it was HIT. */
    private static final class Rule {
        int verdict;
        int hits;
        final int[] lows = new int[FIELDS];
        final int[] highs = new int[FIELDS];

        void reset(int newVerdict) {
            verdict = newVerdict;
            hits = 0;
            for (int field = 0; field < FIELDS; field++) {
                lows[field] = 0;
                highs[field] = SIZES[field] - 1;
            }
        }

        /** How often it was HIT is left out: the COPY does not have it. */
        void takeFrom(Rule other) {
            verdict = other.verdict;
            for (int field = 0; field < FIELDS; field++) {
                lows[field] = other.lows[field];
                highs[field] = other.highs[field];
            }
        }

        boolean isNote() {
            return verdict == NOTE;
        }

        int width(int field) {
            return highs[field] - lows[field] + 1;
        }

        boolean has(int field, int value) {
            return lows[field] <= value && value <= highs[field];
        }

        boolean isWholeFrom(int firstField) {
            for (int field = firstField; field < FIELDS; field++) {
                if (lows[field] != 0 || highs[field] != SIZES[field] - 1) {
                    return false;
                }
            }
            return true;
        }

        boolean meets(int[] values) {
            for (int field = 0; field < FIELDS; field++) {
                if (!has(field, values[field])) {
                    return false;
                }
            }
            return true;
        }

        boolean covers(Rule other) {
            for (int field = 0; field < FIELDS; field++) {
                if (other.lows[field] < lows[field] || other.highs[field] > highs[field]) {
                    return false;
                }
            }
            return true;
        }

        int amountWith(Rule other) {
            int amount = 1;
            for (int field = 0; field < FIELDS; field++) {
                int low = Math.max(lows[field], other.lows[field]);
                int high = Math.min(highs[field], other.highs[field]);
                amount *= Math.max(0, high - low + 1);
            }
            return amount;
        }

        boolean isAgainst(Rule other) {
            return !isNote() && !other.isNote() && verdict != other.verdict && amountWith(other) > 0;
        }
    }

    /** RULES in their order, and the LAST WORD. A set of RULES is the sum of 2^k for each k in it. */
    private static final class Wall {
        /** All rows are made at once; those from count on wait to be used again. */
        final Rule[] rows = new Rule[MOST_RULES];
        int count;
        boolean isLastAllow;

        Wall() {
            for (int i = 0; i < MOST_RULES; i++) {
                rows[i] = new Rule();
            }
        }

        void add(int verdict) {
            rows[count].reset(verdict);
            count++;
        }

        void shift(int from, int to) {
            Rule moved = rows[from];
            for (int i = from; i < to; i++) {
                rows[i] = rows[i + 1];
            }
            for (int i = from; i > to; i--) {
                rows[i] = rows[i - 1];
            }
            rows[to] = moved;
        }

        void remove(int rule) {
            shift(rule, count - 1);
            count--;
        }

        void takeFrom(Wall other) {
            for (int i = 0; i < other.count; i++) {
                rows[i].takeFrom(other.rows[i]);
            }
            count = other.count;
            isLastAllow = other.isLastAllow;
        }

        int deciders() {
            int set = 0;
            for (int i = 0; i < count; i++) {
                if (!rows[i].isNote()) {
                    set |= 1 << i;
                }
            }
            return set;
        }

        int having(int field, int value) {
            int set = 0;
            for (int i = 0; i < count; i++) {
                if (rows[i].has(field, value)) {
                    set |= 1 << i;
                }
            }
            return set;
        }

        /** The next VALUE at which another piece begins; behind the last one the size of the FIELD. */
        int nextCut(int field, int value) {
            int next = SIZES[field];
            for (int i = 0; i < count; i++) {
                if (rows[i].lows[field] > value) {
                    next = Math.min(next, rows[i].lows[field]);
                }
                if (rows[i].highs[field] >= value) {
                    next = Math.min(next, rows[i].highs[field] + 1);
                }
            }
            return next;
        }

        int firstOf(int set) {
            for (int i = 0; i < count; i++) {
                if ((set >> i & 1) == 1) {
                    return i;
                }
            }
            return LAST_WORD;
        }

        /** Whether a PACKET is ALLOWED, if these RULES, none of them a NOTE, are all that MEET it. */
        boolean allows(int set) {
            int first = firstOf(set);
            return first < 0 ? isLastAllow : rows[first].verdict == ALLOW;
        }

        /** Whether no FIELD from this one on has a say any more in what the set decides. */
        boolean isSettled(int field, int set) {
            int first = firstOf(set);
            return first < 0 || rows[first].isWholeFrom(field);
        }

        int firstCover(int rule) {
            for (int i = 0; i < rule; i++) {
                if (!rows[i].isNote() && rows[i].covers(rows[rule])) {
                    return i;
                }
            }
            return -1;
        }

        int hit(int[] values) {
            for (int i = 0; i < count; i++) {
                if (rows[i].meets(values)) {
                    rows[i].hits++;
                    if (!rows[i].isNote()) {
                        return i;
                    }
                }
            }
            return LAST_WORD;
        }
    }

    /**
     * How many PACKETS each set of RULES MEETS, and no other RULE: from these
     * amounts all that the RULES decide, or would decide, can be added up.
     */
    private static final class Survey {
        final Wall wall;
        final int[] lows = new int[SETS * FIELDS];
        final int[] highs = new int[SETS * FIELDS];
        final int[] amounts = new int[SETS];
        boolean isFresh;

        Survey(Wall ofWall) {
            wall = ofWall;
        }

        void refresh() {
            if (isFresh) {
                return;
            }
            for (int field = 0; field < FIELDS; field++) {
                lows[field] = 0;
                highs[field] = SIZES[field] - 1;
            }
            amounts[0] = AMOUNTS[0];
            for (int set = 1; set < setCount(); set++) {
                measure(set);
            }
            takeOutLarger();
            isFresh = true;
        }

        int setCount() {
            return 1 << wall.count;
        }

        /** What all RULES of the set MEET: what the set without its first RULE has, cut by that one. */
        void measure(int set) {
            int first = wall.firstOf(set);
            if (first < 0) {
                return;
            }
            Rule row = wall.rows[first];
            int rest = set - (1 << first);
            int amount = 1;
            for (int field = 0; field < FIELDS; field++) {
                int low = Math.max(row.lows[field], lows[rest * FIELDS + field]);
                int high = Math.min(row.highs[field], highs[rest * FIELDS + field]);
                lows[set * FIELDS + field] = low;
                highs[set * FIELDS + field] = high;
                amount *= Math.max(0, high - low + 1);
            }
            amounts[set] = amount;
        }

        /** RULE by RULE, so that each amount loses once what a larger set MEETS as well. */
        void takeOutLarger() {
            for (int rule = 0; rule < wall.count; rule++) {
                int bit = 1 << rule;
                for (int set = 0; set < setCount(); set++) {
                    if ((set & bit) == 0) {
                        amounts[set] -= amounts[set | bit];
                    }
                }
            }
        }

        int amountOf(int rule) {
            int bit = 1 << rule;
            int ahead = wall.deciders() & (bit - 1);
            int sum = 0;
            for (int set = 0; set < setCount(); set++) {
                if ((set & bit) != 0 && (set & ahead) == 0) {
                    sum += amounts[set];
                }
            }
            return sum;
        }

        int amountAllowed(int present) {
            int deciders = wall.deciders() & present;
            int sum = 0;
            for (int set = 0; set < setCount(); set++) {
                if (wall.allows(set & deciders)) {
                    sum += amounts[set];
                }
            }
            return sum;
        }

        boolean isDead(int rule) {
            return amountOf(rule) == 0;
        }

        /** Of a RULE that is not DEAD. */
        boolean isNeedless(int rule) {
            if (wall.rows[rule].isNote()) {
                return false;
            }
            int deciders = wall.deciders();
            int others = deciders - (1 << rule);
            for (int set = 0; set < setCount(); set++) {
                if (amounts[set] > 0 && wall.allows(set & deciders) != wall.allows(set & others)) {
                    return false;
                }
            }
            return true;
        }

        int amountMoved(int rule, int to) {
            int deciders = wall.deciders();
            int sum = 0;
            for (int set = 0; set < setCount(); set++) {
                if (wall.allows(set & deciders) != allowsMoved(set & deciders, rule, to)) {
                    sum += amounts[set];
                }
            }
            return sum;
        }

        /** Only the moved RULE stands elsewhere among the others, which keep their order. */
        boolean allowsMoved(int set, int rule, int to) {
            int bit = 1 << rule;
            int others = set & ~bit;
            int ahead = to < rule ? (1 << to) - 1 : (2 << to) - 1;
            if ((set & bit) != 0 && (others & ahead) == 0) {
                return wall.allows(bit);
            }
            return wall.allows(others);
        }
    }

    /**
     * The VALUES of each FIELD, cut into segments by the RULES there are now
     * (in the lower half of a mask) and by those of the COPY (in the upper half).
     */
    private static final class Cuts {
        final Wall now;
        final Wall old;
        final int[] counts = new int[FIELDS];
        final int[] starts = new int[FIELDS * MOST_SEGMENTS];
        final int[] masks = new int[FIELDS * MOST_SEGMENTS];
        boolean isFresh;

        Cuts(Wall nowWall, Wall oldWall) {
            now = nowWall;
            old = oldWall;
        }

        void refresh() {
            if (isFresh) {
                return;
            }
            for (int field = 0; field < FIELDS; field++) {
                cut(field);
            }
            isFresh = true;
        }

        void cut(int field) {
            int value = 0;
            int count = 0;
            while (count < MOST_SEGMENTS && value < SIZES[field]) {
                starts[field * MOST_SEGMENTS + count] = value;
                masks[field * MOST_SEGMENTS + count] = now.having(field, value) | old.having(field, value) << MOST_RULES;
                count++;
                value = Math.min(now.nextCut(field, value), old.nextCut(field, value));
            }
            counts[field] = count;
        }

        int start(int field, int segment) {
            return segment < counts[field] ? starts[field * MOST_SEGMENTS + segment] : SIZES[field];
        }

        int mask(int field, int segment) {
            return masks[field * MOST_SEGMENTS + segment];
        }

        /** Segments beside each other with the same RULES of the set are one run. */
        boolean startsRun(int field, int segment, int set) {
            return segment == 0 || ((mask(field, segment) ^ mask(field, segment - 1)) & set) != 0;
        }

        int runEnd(int field, int segment, int set) {
            for (int next = segment + 1; next < counts[field]; next++) {
                if (startsRun(field, next, set)) {
                    return start(field, next);
                }
            }
            return SIZES[field];
        }
    }

    /** The TREE. Only its NODES are kept: their PIECES can be read from the cuts again. */
    private static final class Tree {
        final Wall wall;
        final Cuts cuts;
        /** The NODE of a FIELD and a set, at the FIELD * SETS + the set; -1 if there is none. */
        final int[] numbers = new int[FIELDS * SETS];
        /** The same the other way round. */
        final int[] codes = new int[FIELDS * SETS];
        /** The sum of the steps, from the NODE on, of all PACKETS told apart by its FIELD and later ones. */
        final int[] sums = new int[FIELDS * SETS];
        int count;
        boolean isFresh;

        Tree(Wall ofWall, Cuts ofCuts) {
            wall = ofWall;
            cuts = ofCuts;
        }

        void refresh() {
            if (isFresh) {
                return;
            }
            count = 0;
            for (int code = 0; code < FIELDS * SETS; code++) {
                numbers[code] = -1;
            }
            find(this, 0, wall.deciders());
            isFresh = true;
        }

        /** To what a FIELD and a set lead; a NODE that is not known yet is numbered, with all behind it. */
        private static int find(Tree tree, int field, int set) {
            if (field >= FIELDS || tree.wall.isSettled(field, set)) {
                return LAST_WORD - 1 - tree.wall.firstOf(set);
            }
            int code = field * SETS + set;
            if (tree.numbers[code] >= 0) {
                return tree.numbers[code];
            }
            int node = tree.count;
            tree.count++;
            tree.numbers[code] = node;
            tree.codes[node] = code;
            int sum = AMOUNTS[field];
            for (int segment = 0; segment < tree.cuts.counts[field]; segment++) {
                int next = find(tree, field + 1, set & tree.cuts.mask(field, segment));
                if (next >= 0) {
                    int width = tree.cuts.start(field, segment + 1) - tree.cuts.start(field, segment);
                    sum += width * tree.sums[next];
                }
            }
            tree.sums[node] = sum;
            return node;
        }

        int fieldOf(int node) {
            return codes[node] / SETS;
        }

        int setOf(int node) {
            return codes[node] % SETS;
        }

        int pieceCount(int node) {
            int pieces = 0;
            for (int segment = 0; segment < cuts.counts[fieldOf(node)]; segment++) {
                if (cuts.startsRun(fieldOf(node), segment, setOf(node))) {
                    pieces++;
                }
            }
            return pieces;
        }

        /** The segment with which a PIECE begins; -1 if there is no such PIECE. */
        int segmentOf(int node, int piece) {
            int before = 0;
            for (int segment = 0; segment < cuts.counts[fieldOf(node)]; segment++) {
                if (cuts.startsRun(fieldOf(node), segment, setOf(node))) {
                    if (before == piece) {
                        return segment;
                    }
                    before++;
                }
            }
            return -1;
        }

        int leadOf(int node, int segment) {
            int field = fieldOf(node);
            return find(this, field + 1, setOf(node) & cuts.mask(field, segment));
        }

        int allSteps() {
            return count == 0 ? 0 : sums[0];
        }
    }

    /** What is now against the COPY: how many PACKETS have another VERDICT, and the first of them. */
    private static final class Comparison {
        final Wall now;
        final Wall old;
        final Cuts cuts;
        final int[] first = new int[FIELDS];
        /** Where the walk stands: the least VALUES of the PACKETS that it looks at together. */
        final int[] place = new int[FIELDS];
        int amount;
        boolean isFresh;

        Comparison(Wall nowWall, Wall oldWall, Cuts ofCuts) {
            now = nowWall;
            old = oldWall;
            cuts = ofCuts;
        }

        void refresh() {
            if (isFresh) {
                return;
            }
            amount = 0;
            for (int field = 0; field < FIELDS; field++) {
                first[field] = -1;
            }
            walk(this, 0, now.deciders() | old.deciders() << MOST_RULES, 1);
            isFresh = true;
        }

        /** In the order of the VALUES, so that what differs first is the first PACKET that does. */
        private static void walk(Comparison all, int field, int set, int width) {
            if (field >= FIELDS || all.isSettled(field, set)) {
                all.judge(field, set, width);
                return;
            }
            Cuts cuts = all.cuts;
            for (int segment = 0; segment < cuts.counts[field]; segment++) {
                if (cuts.startsRun(field, segment, set)) {
                    int start = cuts.start(field, segment);
                    int end = cuts.runEnd(field, segment, set);
                    all.place[field] = start;
                    walk(all, field + 1, set & cuts.mask(field, segment), width * (end - start));
                }
            }
        }

        boolean isSettled(int field, int set) {
            return now.isSettled(field, set % SETS) && old.isSettled(field, set / SETS);
        }

        void judge(int field, int set, int width) {
            if (now.allows(set % SETS) == old.allows(set / SETS)) {
                return;
            }
            if (amount == 0) {
                for (int i = 0; i < FIELDS; i++) {
                    first[i] = i < field ? place[i] : 0;
                }
            }
            amount += width * AMOUNTS[field];
        }
    }

    /** PACKETS that were SENT: how many, and those kept, the first one at the place 0. */
    private static final class Log {
        final int[] rows = new int[MOST_KEPT * KEPT_FIELDS];
        int size;
        int all;
        int passed;
        int remembered;
        int byLastWord;

        void count(boolean isAllowed, boolean isByLastWord) {
            all++;
            if (isAllowed) {
                passed++;
            }
            if (isByLastWord) {
                byLastWord++;
            }
        }

        void countRemembered() {
            all++;
            passed++;
            remembered++;
        }

        int placeOf(int from, int to, int port) {
            for (int place = 0; place < size; place++) {
                int row = place * KEPT_FIELDS;
                if (rows[row] == from && rows[row + 1] == to && rows[row + 2] == port) {
                    return place;
                }
            }
            return -1;
        }

        void keep(int from, int to, int port) {
            int same = placeOf(from, to, port);
            if (same >= 0) {
                remove(same);
            } else if (size >= MOST_KEPT) {
                remove(0);
            }
            int row = size * KEPT_FIELDS;
            rows[row] = from;
            rows[row + 1] = to;
            rows[row + 2] = port;
            size++;
        }

        void remove(int place) {
            for (int i = place * KEPT_FIELDS; i < (size - 1) * KEPT_FIELDS; i++) {
                rows[i] = rows[i + KEPT_FIELDS];
            }
            size--;
        }
    }
}
