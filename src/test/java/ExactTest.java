import java.util.NoSuchElementException;

/** Promise 6 (exact). */
public final class ExactTest {
    private static final int NONE = GlassHall.NONE;

    public static void main(String[] args) {
        panesOfARowStandSideBySide();
        rowsComeBeforeColumns();
        turnsComeAfterRows();
        earlierPanesWeighMore();
        cellsAreCutToThePane();
        columnsAreAsWideAsTheirWidestRow();
        panesStandInTheOrderOfNaming();
        noneNamesNoPane();
        noneFits();
        exactRefuses();
        Check.end();
    }

    private static GlassHall hallOf(int w, int h, int[]... orders) {
        GlassHall hall = new GlassHall();
        hall.sheet(w, h);
        for (int[] o : orders) {
            hall.order(o[0], o[1], o[2] == 1, o[3]);
        }
        return hall;
    }

    private static void panesOfARowStandSideBySide() {
        GlassHall hall = hallOf(100, 50, new int[] {30, 50, 0, 3});
        Check.same("three in a row", hall.exact(0, 0, 0, 0), 3);
        Trees.areAs("tree of a row", hall, 0,
                "X 0 0 100 50 90 1 6 1",
                "X 0 0 90 50 30 2 3 0",
                "P 0 0 30 50 0 -1 -1 0",
                "X 30 0 60 50 30 4 5 0",
                "P 30 0 30 50 0 -1 -1 0",
                "P 60 0 30 50 0 -1 -1 0",
                ". 90 0 10 50 -1 -1 -1 0");
        Check.same("planned panes", hall.panes(0, 1), 3);
    }

    private static void rowsComeBeforeColumns() {
        GlassHall hall = hallOf(50, 40, new int[] {30, 20, 0, 2}, new int[] {20, 40, 0, 1});
        Check.same("two rows", hall.exact(0, 0, 0, NONE), 2);
        Trees.areAs("tree of two rows", hall, 0,
                "X 0 0 50 40 30 1 4 1",
                "- 0 0 30 40 20 2 3 0",
                "P 0 0 30 20 0 -1 -1 0",
                "P 0 20 30 20 0 -1 -1 0",
                ". 30 0 20 40 -1 -1 -1 0");
        hall.cancel(0);
        Check.same("two rows and a column", hall.exact(0, 0, 0, 1), 3);
        Check.same("the first cut is the column's", hall.node(0, 0, 5), 30);
        Check.same("the column's pane", hall.node(0, 4, 5), 1);
    }

    private static void turnsComeAfterRows() {
        GlassHall hall = hallOf(50, 60, new int[] {50, 20, 1, 2});
        Check.same("a turned pane is no better than a second row", hall.exact(0, 0, 0, NONE), 2);
        Check.same("two rows", hall.node(0, 0, 0), 1);
        GlassHall low = hallOf(70, 50, new int[] {50, 20, 1, 2});
        Check.same("a turned pane is better than a second row", low.exact(0, 0, 0, NONE), 2);
        Trees.areAs("tree with a turned pane", low, 0,
                "X 0 0 70 50 50 1 4 1",
                "- 0 0 50 50 20 2 3 0",
                "P 0 0 50 20 0 -1 -1 0",
                ". 0 20 50 30 -1 -1 -1 0",
                "P 50 0 20 50 0 -1 -1 0");
        GlassHall fixed = hallOf(70, 30, new int[] {20, 50, 0, 1});
        Check.same("a pane that may not be turned", fixed.exact(0, 0, NONE, NONE), 0);
    }

    private static void earlierPanesWeighMore() {
        GlassHall hall = hallOf(60, 60, new int[] {40, 30, 1, 1}, new int[] {30, 60, 0, 1});
        Check.same("the first pane has to turn", hall.exact(0, 0, 1, NONE), 2);
        Check.same("width of the first pane", hall.node(0, 2, 3), 30);
        Check.same("height of the first pane", hall.node(0, 2, 4), 40);
    }

    private static void cellsAreCutToThePane() {
        GlassHall hall = hallOf(60, 50, new int[] {20, 40, 0, 1}, new int[] {30, 25, 0, 1});
        Check.same("a high and a low pane", hall.exact(0, 1, 0, NONE), 2);
        Trees.areAs("tree with a cell that is cut", hall, 0,
                "X 0 0 60 50 50 1 8 1",
                "- 0 0 50 50 40 2 7 0",
                "X 0 0 50 40 30 3 6 0",
                "- 0 0 30 40 25 4 5 0",
                "P 0 0 30 25 1 -1 -1 0",
                ". 0 25 30 15 -1 -1 -1 0",
                "P 30 0 20 40 0 -1 -1 0",
                ". 0 40 50 10 -1 -1 -1 0",
                ". 50 0 10 50 -1 -1 -1 0");
    }

    private static void columnsAreAsWideAsTheirWidestRow() {
        GlassHall hall = hallOf(70, 50, new int[] {20, 30, 0, 1}, new int[] {60, 20, 0, 1}, new int[] {10, 50, 0, 1});
        Check.same("a narrow row, a wide one and a column", hall.exact(0, 0, 1, 2), 3);
        Trees.areAs("tree with a narrow row", hall, 0,
                "X 0 0 70 50 60 1 6 1",
                "- 0 0 60 50 30 2 5 0",
                "X 0 0 60 30 20 3 4 0",
                "P 0 0 20 30 0 -1 -1 0",
                ". 20 0 40 30 -1 -1 -1 0",
                "P 0 30 60 20 1 -1 -1 0",
                "P 60 0 10 50 2 -1 -1 0");
    }

    private static void panesStandInTheOrderOfNaming() {
        GlassHall hall = hallOf(60, 20, new int[] {10, 20, 0, 1}, new int[] {20, 20, 0, 1}, new int[] {30, 20, 0, 1});
        hall.exact(0, 2, 0, 1);
        Trees.areAs("tree in the order of naming", hall, 0,
                "X 0 0 60 20 30 1 2 1",
                "P 0 0 30 20 2 -1 -1 0",
                "X 30 0 30 20 10 3 4 0",
                "P 30 0 10 20 0 -1 -1 0",
                "P 40 0 20 20 1 -1 -1 0");
    }

    private static void noneNamesNoPane() {
        GlassHall hall = hallOf(60, 20, new int[] {10, 20, 0, 3});
        Check.same("one pane", hall.exact(0, 0, NONE, NONE), 1);
        hall.cancel(0);
        Check.same("a and b", hall.exact(0, 0, 0, NONE), 2);
        hall.cancel(0);
        Check.same("a and c", hall.exact(0, 0, NONE, 0), 2);
        Check.same("open panes", hall.panes(0, 0), 1);
    }

    private static void noneFits() {
        GlassHall hall = hallOf(60, 20, new int[] {25, 20, 1, 3});
        Check.same("three do not fit", hall.exact(0, 0, 0, 0), 0);
        Check.same("open panes", hall.panes(0, 0), 3);
        Check.same("planned sheets", hall.total(1), 0);
        Check.same("area of unplanned sheets", hall.area(0), 1200);
        Check.same("two fit", hall.exact(0, 0, 0, NONE), 2);
    }

    private static void exactRefuses() {
        GlassHall hall = hallOf(60, 20, new int[] {10, 10, 0, 1}, new int[] {10, 10, 0, 2});
        hall.sheet(60, 20);
        hall.flaw(1, 0, 0, 1, 1);
        hall.sheet(60, 20);
        Check.refuses("no sheet", NoSuchElementException.class, () -> hall.exact(3, 0, NONE, NONE));
        Check.refuses("a of no order", NoSuchElementException.class, () -> hall.exact(0, 2, NONE, NONE));
        Check.refuses("b of no order", NoSuchElementException.class, () -> hall.exact(0, 0, 2, NONE));
        Check.refuses("c of no order", NoSuchElementException.class, () -> hall.exact(0, 0, 1, -2));
        Check.refuses("NONE for a", NoSuchElementException.class, () -> hall.exact(0, NONE, 0, 1));
        Check.refuses("flaws, and no order", NoSuchElementException.class, () -> hall.exact(1, 0, 6, NONE));
        Check.refuses("a sheet with flaws", IllegalStateException.class, () -> hall.exact(1, 0, NONE, NONE));
        Check.refuses("a and b too often", IllegalStateException.class, () -> hall.exact(0, 0, 0, NONE));
        Check.refuses("a and c too often", IllegalStateException.class, () -> hall.exact(0, 0, 1, 0));
        Check.refuses("b and c too often", IllegalStateException.class, () -> hall.exact(0, 1, 0, 0));
        Check.refuses("all three too often", IllegalStateException.class, () -> hall.exact(0, 1, 1, 1));
        Check.same("as often as there are", hall.exact(0, 1, 0, 1), 3);
        Check.refuses("a planned sheet", IllegalStateException.class, () -> hall.exact(0, 0, NONE, NONE));
        Check.refuses("planned panes are not open", IllegalStateException.class, () -> hall.exact(2, 0, NONE, NONE));
    }
}
