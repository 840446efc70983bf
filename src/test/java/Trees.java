/** Tells a planned sheet's tree as a text, a node a line. */
final class Trees {
    private static final String KINDS = "X-P.";

    private Trees() {
    }

    /** Each line: kind (X crossways, - lengthways, P pane, . rest), x, y, w, h, mark, first, second, state. */
    static String tell(GlassHall hall, int id) {
        StringBuilder text = new StringBuilder();
        for (int i = 0; i < hall.nodes(id); i++) {
            text.append(KINDS.charAt(hall.node(id, i, 0)));
            for (int what = 1; what <= 8; what++) {
                text.append(' ').append(hall.node(id, i, what));
            }
            text.append('\n');
        }
        return text.toString();
    }

    static void areAs(String what, GlassHall hall, int id, String... lines) {
        Check.same(what, tell(hall, id), String.join("\n", lines) + "\n");
    }
}
