/** What can be seen of an object without changing it, as one text. */
final class Look {
    private Look() {
    }

    static String at(Nettle n) {
        StringBuilder text = new StringBuilder();
        for (int rule = 0; rule < n.rules(); rule++) {
            text.append("rule ").append(rule).append(':');
            for (int what = 0; what <= 9; what++) {
                text.append(' ').append(n.ofRule(rule, what));
            }
            text.append('\n');
        }
        text.append("kept:");
        for (int place = 0; place < n.sent(3); place++) {
            text.append(" (").append(n.kept(place, 0)).append(' ').append(n.kept(place, 1));
            text.append(' ').append(n.kept(place, 2)).append(')');
        }
        text.append("\nnodes ").append(n.nodes()).append(", mean ").append(n.meanSteps());
        text.append("\ndigest ").append(n.digest());
        return text.toString();
    }
}
