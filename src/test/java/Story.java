/** All that a hall tells of itself, as a text. */
final class Story {
    private static final int MOST_FLAWS = 6;

    private Story() {
    }

    static String of(Hall hall) {
        StringBuilder text = new StringBuilder();
        for (int what = 0; what <= 4; what++) {
            text.append("total ").append(hall.total(what)).append('\n');
        }
        for (int kind = 0; kind <= 6; kind++) {
            text.append("area ").append(hall.area(kind)).append('\n');
        }
        for (int order = 0; order < hall.total(2); order++) {
            text.append("order ").append(panes(hall, order)).append('\n');
        }
        for (int k = 0; k < hall.total(3); k++) {
            text.append("offcut ").append(offcut(hall, k)).append('\n');
        }
        for (int id = 0; id < hall.total(4); id++) {
            text.append("sheet ").append(id).append('\n').append(flaws(hall, id)).append(tree(hall, id));
        }
        return text.toString();
    }

    /** Open, planned and done. */
    static String panes(Hall hall, int order) {
        return hall.panes(order, 0) + " " + hall.panes(order, 1) + " " + hall.panes(order, 2);
    }

    /** Width, height and how many flaws. */
    static String offcut(Hall hall, int k) {
        return hall.rack(k, 0) + " " + hall.rack(k, 1) + " " + hall.rack(k, 2);
    }

    /** x, y, width and height. */
    static String flaw(Hall hall, int id, int k) {
        return hall.flawed(id, k, 0) + " " + hall.flawed(id, k, 1) + " " + hall.flawed(id, k, 2) + " "
                + hall.flawed(id, k, 3);
    }

    /** A line for each flaw; the last line tells how there are no more. */
    static String flaws(Hall hall, int id) {
        StringBuilder text = new StringBuilder();
        String end = null;
        for (int k = 0; end == null && k <= MOST_FLAWS; k++) {
            int next = k;
            String outcome = Check.outcome(hall, h -> h.flawed(id, next, 0));
            if (outcome.startsWith("throws")) {
                end = outcome;
            } else {
                text.append("flaw ").append(flaw(hall, id, k)).append('\n');
            }
        }
        return text.append("flaw ").append(end).append('\n').toString();
    }

    private static String tree(Hall hall, int id) {
        String nodes = Check.outcome(hall, h -> h.nodes(id));
        return nodes.startsWith("throws") ? "nodes " + nodes + '\n' : Trees.tell(hall, id);
    }
}
