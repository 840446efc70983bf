/** Scenes that several tests begin with. */
final class Scenes {
    private Scenes() {
    }

    static void empty(Hall hall) {
    }

    /**
     * Sheet 0 is planned, of 60 x 100 with three panes of 30 x 40. Its nodes: 0 crossways; 1 lengthways, 2 pane,
     * 3 lengthways, 4 pane, 5 rest of 30 x 20; 6 lengthways, 7 pane, 8 rest of 30 x 60.
     */
    static void planned(Hall hall) {
        hall.order(30, 40, false, 3);
        hall.sheet(60, 100);
        hall.plan(0);
    }

    /** As above, and node 0 is cut: 1 and 6 wait. */
    static void scoredOnce(Hall hall) {
        planned(hall);
        hall.score(0);
    }

    /** Sheet 0 is gone, sheet 1 is planned and has nine nodes, sheet 2 is neither planned nor flawed. */
    static void oneGoneOnePlannedOneBlank(Hall hall) {
        hall.order(30, 40, false, 3);
        hall.sheet(30, 40);
        hall.plan(0);
        hall.broke(0, 0);
        hall.sheet(60, 100);
        hall.plan(1);
        hall.sheet(60, 100);
    }

    /** A hall with sheet 0, orders (each as width, height, 1 if it may be turned, count) and flaws. */
    static Hall sheetOf(int w, int h, int[][] orders, int[]... flaws) {
        Hall hall = new CountedHall();
        hall.sheet(w, h);
        for (int[] f : flaws) {
            hall.flaw(0, f[0], f[1], f[2], f[3]);
        }
        for (int[] o : orders) {
            hall.order(o[0], o[1], o[2] == 1, o[3]);
        }
        return hall;
    }

    static void sheets(Hall hall, int count) {
        for (int i = 0; i < count; i++) {
            hall.sheet(10, 10);
        }
    }

    /** Four calls; one sheet more that is gone. The order has an open pane of 1 x 1, and still has it then. */
    static void offcut(Hall hall, int order, int w, int h) {
        int id = hall.sheet(w + 1, h);
        hall.exact(id, order, Hall.NONE, Hall.NONE);
        hall.score(id);
        hall.broke(id, 1);
    }

    /** The rack has one offcut, of 300 x 300, with so many flaws; a strip of its sheet 0 still waits. */
    static void flawedOffcut(Hall hall, int flaws) {
        hall.order(1, 1, false, 1);
        hall.sheet(301, 300);
        for (int k = 0; k < flaws; k++) {
            hall.flaw(0, 10 + k, 10, 1, 1);
        }
        hall.plan(0);
        hall.score(0);
    }

    /** Order 0 has one pane of 1 x 1, open; the rack has offcuts of these sizes. */
    static void offcuts(Hall hall, int[]... sizes) {
        hall.order(1, 1, false, 1);
        for (int[] size : sizes) {
            offcut(hall, 0, size[0], size[1]);
        }
    }

    /** Offcuts of 300 x 300, 301 x 300 and so on. */
    static void offcuts(Hall hall, int count) {
        hall.order(1, 1, false, 1);
        for (int i = 0; i < count; i++) {
            offcut(hall, 0, 300 + i, 300);
        }
    }
}
