/** Tells a planned sheet's tree as a text. */
final class Trees {
    private static final String KINDS = "X-P.";

    private Trees() {
    }

    /** Each line: kind (X crossways, - lengthways, P pane, . rest), x, y, w, h, mark, first, second, state. */
    static String tell(Hall hall, int id) {
        StringBuilder text = new StringBuilder();
        for (int i = 0; i < hall.nodes(id); i++) {
            text.append(KINDS.charAt(hall.node(id, i, 0)));
            for (int what = 1; what <= 8; what++) {
                text.append(' ').append(hall.node(id, i, what));
            }
            text.append('\n');
        }
        return text.toString();
    }

    static void areAs(String what, Hall hall, int id, String... lines) {
        Check.same(what, tell(hall, id), String.join("\n", lines) + "\n");
    }

    /** The panes in the order of their nodes, each as order:x,y,w,h. */
    static String panes(Hall hall, int id) {
        StringBuilder text = new StringBuilder();
        for (int i = 0; i < hall.nodes(id); i++) {
            if (hall.node(id, i, 0) == 2) {
                text.append(text.length() == 0 ? "" : " ").append(hall.node(id, i, 5)).append(':');
                text.append(hall.node(id, i, 1)).append(',').append(hall.node(id, i, 2)).append(',');
                text.append(hall.node(id, i, 3)).append(',').append(hall.node(id, i, 4));
            }
        }
        return text.toString();
    }

    /** The states of all nodes, a digit each. */
    static String states(Hall hall, int id) {
        StringBuilder text = new StringBuilder();
        for (int i = 0; i < hall.nodes(id); i++) {
            text.append(hall.node(id, i, 8));
        }
        return text.toString();
    }
}
