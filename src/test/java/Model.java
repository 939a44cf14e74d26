import java.util.ArrayList;
import java.util.HashMap;
import java.util.List;
import java.util.Map;
import java.util.TreeSet;

/**
 * The document's words once more, in another way and without any care for speed:
 * amounts are added up over all blocks of PACKETS that no RANGE tells apart.
 */
final class Model {
    static final int[] SIZES = {256, 256, 1024, 4};

    static final class Row {
        int verdict;
        int hits;
        int[] low = {0, 0, 0, 0};
        int[] high = {255, 255, 1023, 3};

        Row twin() {
            Row twin = new Row();
            twin.verdict = verdict;
            twin.hits = hits;
            twin.low = low.clone();
            twin.high = high.clone();
            return twin;
        }

        boolean meets(int[] packet) {
            for (int f = 0; f < 4; f++) {
                if (packet[f] < low[f] || packet[f] > high[f]) {
                    return false;
                }
            }
            return true;
        }
    }

    static final class Node {
        int field;
        List<Integer> set;
        final List<int[]> pieces = new ArrayList<>();
    }

    interface Wanted {
        boolean is(int[] packet);
    }

    List<Row> rows = new ArrayList<>();
    boolean last;
    List<Row> copyRows = new ArrayList<>();
    boolean copyLast;
    final List<int[]> keptOnes = new ArrayList<>();
    int sentAll;
    int sentAllowed;
    int sentRemembered;
    int sentByLast;

    // ---- rules

    int rule(int verdict) {
        needVerdict(verdict);
        if (rows.size() == 8) {
            throw new IllegalStateException();
        }
        Row row = new Row();
        row.verdict = verdict;
        rows.add(row);
        return rows.size() - 1;
    }

    int narrow(int rule, int field, int low, int high) {
        needRule(rule);
        if (field < 0 || field > 3) {
            throw new IndexOutOfBoundsException();
        }
        if (low < 0 || low >= SIZES[field] || high < 0 || high >= SIZES[field] || high < low) {
            throw new IllegalArgumentException();
        }
        Row row = rows.get(rule);
        int before = row.high[field] - row.low[field] + 1;
        row.low[field] = low;
        row.high[field] = high;
        return before;
    }

    int turn(int rule, int verdict) {
        needRule(rule);
        needVerdict(verdict);
        int before = rows.get(rule).verdict;
        rows.get(rule).verdict = verdict;
        return before;
    }

    int move(int rule, int to) {
        needRule(rule);
        needRule(to);
        List<Row> before = new ArrayList<>(rows);
        rows.add(to, rows.remove(rule));
        int others = 0;
        for (int i = 0; i < rows.size(); i++) {
            others += rows.get(i) == before.get(i) ? 0 : 1;
        }
        return others;
    }

    int drop(int rule) {
        needRule(rule);
        rows.remove(rule);
        return rows.size();
    }

    boolean setLast(boolean isAllowed) {
        boolean before = last;
        last = isAllowed;
        return before;
    }

    int shrink() {
        int taken = 0;
        boolean again = true;
        while (again) {
            again = false;
            for (int rule = 0; rule < rows.size() && !again; rule++) {
                if (state(rule) != 0) {
                    rows.remove(rule);
                    taken++;
                    again = true;
                }
            }
        }
        return taken;
    }

    int rules() {
        return rows.size();
    }

    int ofRule(int rule, int what) {
        needRule(rule);
        needWhat(what, 9);
        Row row = rows.get(rule);
        int[] all = {row.verdict, row.low[0], row.high[0], row.low[1], row.high[1], row.low[2], row.high[2],
            row.low[3], row.high[3], row.hits};
        return all[what];
    }

    // ---- what they decide

    int decides(int rule) {
        needRule(rule);
        if (rows.get(rule).verdict != 2) {
            return amount(p -> deciderOf(rows, p) == rule);
        }
        return amount(p -> rows.get(rule).meets(p) && deciderOf(rows.subList(0, rule), p) < 0);
    }

    int allowed() {
        return amount(p -> verdictOf(rows, last, p));
    }

    int state(int rule) {
        needRule(rule);
        if (decides(rule) == 0) {
            int cover = coveredBy(rule);
            if (cover < 0) {
                return 3;
            }
            return rows.get(cover).verdict == rows.get(rule).verdict ? 1 : 2;
        }
        if (rows.get(rule).verdict == 2) {
            return 0;
        }
        List<Row> without = without(rule);
        return amount(p -> verdictOf(rows, last, p) != verdictOf(without, last, p)) == 0 ? 4 : 0;
    }

    int coveredBy(int rule) {
        needRule(rule);
        Row own = rows.get(rule);
        for (int i = 0; i < rule; i++) {
            Row other = rows.get(i);
            boolean covers = other.verdict != 2;
            for (int f = 0; f < 4; f++) {
                covers &= other.low[f] <= own.low[f] && own.high[f] <= other.high[f];
            }
            if (covers) {
                return i;
            }
        }
        return -1;
    }

    int shared(int a, int b) {
        needRule(a);
        needRule(b);
        return amount(p -> rows.get(a).meets(p) && rows.get(b).meets(p));
    }

    int quarrels() {
        int pairs = 0;
        for (int a = 0; a < rows.size(); a++) {
            for (int b = 0; b < a; b++) {
                boolean isAgainst = rows.get(a).verdict + rows.get(b).verdict == 1 && shared(a, b) > 0;
                pairs += isAgainst ? 1 : 0;
            }
        }
        return pairs;
    }

    int decider(int... packet) {
        needPacket(packet);
        return deciderOf(rows, packet);
    }

    // ---- the tree

    List<Node> tree() {
        List<Node> nodes = new ArrayList<>();
        List<Integer> set = new ArrayList<>();
        for (int i = 0; i < rows.size(); i++) {
            if (rows.get(i).verdict != 2) {
                set.add(i);
            }
        }
        lead(nodes, new HashMap<>(), 0, set);
        return nodes;
    }

    private int lead(List<Node> nodes, Map<String, Integer> found, int field, List<Integer> set) {
        if (set.isEmpty()) {
            return -1;
        }
        boolean isWhole = true;
        for (int f = field; f < 4; f++) {
            Row row = rows.get(set.get(0));
            isWhole &= row.low[f] == 0 && row.high[f] == SIZES[f] - 1;
        }
        if (isWhole) {
            return -2 - set.get(0);
        }
        String name = field + " " + set;
        if (found.containsKey(name)) {
            return found.get(name);
        }
        Node node = new Node();
        node.field = field;
        node.set = set;
        int number = nodes.size();
        found.put(name, number);
        nodes.add(node);
        List<Integer> current = null;
        for (int value = 0; value < SIZES[field]; value++) {
            List<Integer> here = new ArrayList<>();
            for (int i : set) {
                if (rows.get(i).low[field] <= value && value <= rows.get(i).high[field]) {
                    here.add(i);
                }
            }
            if (here.equals(current)) {
                node.pieces.get(node.pieces.size() - 1)[1] = value;
            } else {
                node.pieces.add(new int[] {value, value, lead(nodes, found, field + 1, here)});
            }
            current = here;
        }
        return number;
    }

    int nodes() {
        return tree().size();
    }

    int ofNode(int node, int what) {
        List<Node> nodes = tree();
        if (node < 0 || node >= nodes.size()) {
            throw new IndexOutOfBoundsException();
        }
        needWhat(what, 2);
        Node it = nodes.get(node);
        int sum = 0;
        for (int i : it.set) {
            sum += 1 << i;
        }
        return new int[] {it.field, sum, it.pieces.size()}[what];
    }

    int piece(int node, int piece, int what) {
        List<Node> nodes = tree();
        if (node < 0 || node >= nodes.size() || piece < 0 || piece >= nodes.get(node).pieces.size()) {
            throw new IndexOutOfBoundsException();
        }
        needWhat(what, 2);
        return nodes.get(node).pieces.get(piece)[what];
    }

    int steps(int... packet) {
        needPacket(packet);
        return stepsIn(tree(), packet);
    }

    private static int stepsIn(List<Node> nodes, int[] packet) {
        int at = nodes.isEmpty() ? -1 : 0;
        int steps = 0;
        while (at >= 0) {
            steps++;
            Node node = nodes.get(at);
            for (int[] piece : node.pieces) {
                if (piece[0] <= packet[node.field] && packet[node.field] <= piece[1]) {
                    at = piece[2];
                    break;
                }
            }
        }
        return steps;
    }

    double meanSteps() {
        List<Node> nodes = tree();
        long sum = 0;
        for (int steps = 1; steps <= 4; steps++) {
            int due = steps;
            sum += (long) steps * amount(p -> stepsIn(nodes, p) == due);
        }
        return sum / 268435456.0;
    }

    // ---- packets

    int send(int... packet) {
        needPacket(packet);
        sentAll++;
        if (packet[3] == 1) {
            for (int[] one : keptOnes) {
                if (one[0] == packet[1] && one[1] == packet[0] && one[2] == packet[2]) {
                    sentAllowed++;
                    sentRemembered++;
                    return 2;
                }
            }
        }
        int decider = deciderOf(rows, packet);
        for (int i = 0; i < (decider < 0 ? rows.size() : decider); i++) {
            if (rows.get(i).verdict == 2 && rows.get(i).meets(packet)) {
                rows.get(i).hits++;
            }
        }
        if (decider < 0) {
            sentByLast++;
        } else {
            rows.get(decider).hits++;
        }
        if (!verdictOf(rows, last, packet)) {
            return 0;
        }
        sentAllowed++;
        if (packet[3] == 0) {
            keptOnes.removeIf(one -> one[0] == packet[0] && one[1] == packet[1] && one[2] == packet[2]);
            keptOnes.add(new int[] {packet[0], packet[1], packet[2]});
            if (keptOnes.size() > 8) {
                keptOnes.remove(0);
            }
        }
        return 1;
    }

    int sent(int what) {
        needWhat(what, 4);
        return new int[] {sentAll, sentAllowed, sentRemembered, keptOnes.size(), sentByLast}[what];
    }

    int kept(int place, int field) {
        if (place < 0 || place >= keptOnes.size()) {
            throw new IndexOutOfBoundsException();
        }
        needWhat(field, 2);
        return keptOnes.get(place)[field];
    }

    int forget() {
        int before = keptOnes.size();
        keptOnes.clear();
        return before;
    }

    // ---- the copy

    int copy() {
        copyRows = new ArrayList<>();
        for (Row row : rows) {
            copyRows.add(row.twin());
        }
        copyLast = last;
        return rows.size();
    }

    int changed() {
        return amount(this::isChanged);
    }

    int witness(int field) {
        needWhat(field, 3);
        int[] found = {-1, -1, -1, -1};
        everyBlock((packet, size) -> {
            if (found[0] < 0 && isChanged(packet)) {
                System.arraycopy(packet, 0, found, 0, 4);
            }
        });
        return found[field];
    }

    private boolean isChanged(int[] packet) {
        return verdictOf(rows, last, packet) != verdictOf(copyRows, copyLast, packet);
    }

    // ---- what would be

    int allowedWithout(int rule) {
        needRule(rule);
        List<Row> without = without(rule);
        return amount(p -> verdictOf(without, last, p));
    }

    int changedByMove(int rule, int to) {
        needRule(rule);
        needRule(to);
        List<Row> moved = new ArrayList<>(rows);
        moved.add(to, moved.remove(rule));
        return amount(p -> verdictOf(rows, last, p) != verdictOf(moved, last, p));
    }

    long digest() {
        List<Integer> told = new ArrayList<>();
        told.add(rules());
        for (int rule = 0; rule < rows.size(); rule++) {
            for (int what = 0; what <= 9; what++) {
                told.add(ofRule(rule, what));
            }
            told.add(decides(rule));
            told.add(state(rule));
            told.add(coveredBy(rule));
            told.add(allowedWithout(rule));
        }
        told.add(allowed());
        told.add(quarrels());
        tellTree(told);
        for (int what = 0; what <= 4; what++) {
            told.add(sent(what));
        }
        for (int[] one : keptOnes) {
            told.add(one[0]);
            told.add(one[1]);
            told.add(one[2]);
        }
        told.add(changed());
        for (int field = 0; field < 4; field++) {
            told.add(witness(field));
        }
        long d = 58082;
        for (int x : told) {
            d = d * 31 + x;
        }
        return d;
    }

    private void tellTree(List<Integer> told) {
        List<Node> nodes = tree();
        told.add(nodes.size());
        for (int node = 0; node < nodes.size() && node < 20; node++) {
            for (int what = 0; what <= 2; what++) {
                told.add(ofNode(node, what));
            }
            for (int[] piece : nodes.get(node).pieces) {
                told.add(piece[0]);
                told.add(piece[1]);
                told.add(piece[2]);
            }
        }
    }

    // ---- help

    private static int deciderOf(List<Row> rows, int[] packet) {
        for (int i = 0; i < rows.size(); i++) {
            if (rows.get(i).verdict != 2 && rows.get(i).meets(packet)) {
                return i;
            }
        }
        return -1;
    }

    private static boolean verdictOf(List<Row> rows, boolean last, int[] packet) {
        int decider = deciderOf(rows, packet);
        return decider < 0 ? last : rows.get(decider).verdict == 1;
    }

    private List<Row> without(int rule) {
        List<Row> without = new ArrayList<>(rows);
        without.remove(rule);
        return without;
    }

    interface Block {
        void take(int[] packet, int size);
    }

    /** In the order of the VALUES, each block by its first PACKET. */
    private void everyBlock(Block block) {
        int[][] starts = new int[4][];
        for (int f = 0; f < 4; f++) {
            TreeSet<Integer> cuts = new TreeSet<>();
            cuts.add(0);
            cuts.add(SIZES[f]);
            for (List<Row> some : List.of(rows, copyRows)) {
                for (Row row : some) {
                    cuts.add(row.low[f]);
                    cuts.add(row.high[f] + 1);
                }
            }
            starts[f] = cuts.stream().mapToInt(Integer::intValue).toArray();
        }
        for (int a = 0; a + 1 < starts[0].length; a++) {
            for (int b = 0; b + 1 < starts[1].length; b++) {
                for (int c = 0; c + 1 < starts[2].length; c++) {
                    for (int d = 0; d + 1 < starts[3].length; d++) {
                        int size = (starts[0][a + 1] - starts[0][a]) * (starts[1][b + 1] - starts[1][b])
                                * (starts[2][c + 1] - starts[2][c]) * (starts[3][d + 1] - starts[3][d]);
                        block.take(new int[] {starts[0][a], starts[1][b], starts[2][c], starts[3][d]}, size);
                    }
                }
            }
        }
    }

    private int amount(Wanted wanted) {
        int[] sum = {0};
        everyBlock((packet, size) -> sum[0] += wanted.is(packet) ? size : 0);
        return sum[0];
    }

    private void needRule(int rule) {
        if (rule < 0 || rule >= rows.size()) {
            throw new IndexOutOfBoundsException();
        }
    }

    private static void needVerdict(int verdict) {
        needWhat(verdict, 2);
    }

    private static void needWhat(int what, int most) {
        if (what < 0 || what > most) {
            throw new IllegalArgumentException();
        }
    }

    private static void needPacket(int[] packet) {
        for (int f = 0; f < 4; f++) {
            if (packet[f] < 0 || packet[f] >= SIZES[f]) {
                throw new IllegalArgumentException();
            }
        }
    }
}
