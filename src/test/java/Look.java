/** What can be seen of an object, as one text. */
final class Look {
    private static final int MOST_RULES = 8;

    private Look() {
    }

    /** What can be seen without changing it. */
    static String at(Nettle n) {
        StringBuilder text = new StringBuilder();
        for (int rule = 0; rule < n.rules(); rule++) {
            text.append("rule ").append(rule).append(": ").append(rule(n, rule)).append('\n');
        }
        text.append("kept: ").append(kept(n));
        text.append("\nnodes ").append(n.nodes()).append(", mean ").append(n.meanSteps());
        text.append("\ndigest ").append(n.digest());
        return text.toString();
    }

    /** The same, and what is behind it: RULES are dropped, so that the LAST WORD and the COPY come to light. */
    static String through(Nettle n) {
        StringBuilder text = new StringBuilder(at(n));
        text.append("\nlast word ").append(n.setLast(true));
        for (int i = 0; i < MOST_RULES && n.rules() > 0; i++) {
            text.append("\nwithout one more: ").append(n.drop(0)).append(' ').append(n.changed());
        }
        text.append("\ncopy: denies ").append(n.changed()).append(" from ").append(witness(n));
        n.setLast(false);
        text.append(", allows ").append(n.changed()).append(" from ").append(witness(n));
        text.append("\nroom for ").append(n.rule(1)).append(", forgotten ").append(n.forget());
        return text.toString();
    }

    static String rule(Nettle n, int rule) {
        StringBuilder text = new StringBuilder();
        for (int what = 0; what <= 9; what++) {
            text.append(what == 0 ? "" : " ").append(n.ofRule(rule, what));
        }
        return text.toString();
    }

    static String kept(Nettle n) {
        StringBuilder text = new StringBuilder();
        for (int place = 0; place < n.sent(3); place++) {
            text.append(place == 0 ? "" : " ").append(n.kept(place, 0)).append('-').append(n.kept(place, 1));
            text.append(':').append(n.kept(place, 2));
        }
        return text.toString();
    }

    static String hits(Nettle n) {
        StringBuilder text = new StringBuilder();
        for (int rule = 0; rule < n.rules(); rule++) {
            text.append(rule == 0 ? "" : " ").append(n.ofRule(rule, 9));
        }
        return text.toString();
    }

    static String sent(Nettle n) {
        StringBuilder text = new StringBuilder();
        for (int what = 0; what <= 4; what++) {
            text.append(what == 0 ? "" : " ").append(n.sent(what));
        }
        return text.toString();
    }

    static String witness(Nettle n) {
        StringBuilder text = new StringBuilder();
        for (int field = 0; field <= 3; field++) {
            text.append(field == 0 ? "" : " ").append(n.witness(field));
        }
        return text.toString();
    }

    /** A NODE: its FIELD, its set, and its PIECES in their order. */
    static String node(Nettle n, int node) {
        StringBuilder text = new StringBuilder();
        text.append(n.ofNode(node, 0)).append(" {").append(n.ofNode(node, 1)).append('}');
        for (int piece = 0; piece < n.ofNode(node, 2); piece++) {
            text.append(' ').append(n.piece(node, piece, 0)).append("..").append(n.piece(node, piece, 1));
            text.append('>').append(n.piece(node, piece, 2));
        }
        return text.toString();
    }
}
