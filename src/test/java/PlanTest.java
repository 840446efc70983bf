import java.util.NoSuchElementException;

/** Promises 5 (plan), 7 (node) and 8 (nodes). */
public final class PlanTest {
    public static void main(String[] args) {
        stripsMakeATree();
        ordersComeByHeightWidthAndNumber();
        panesAreTurnedWhenTheyMay();
        turnedPanesComeBeforeTheNextOrder();
        panesKeepClearOfFlaws();
        flawsAtEdgesDoNotMatter();
        flawsAtLeftAndBelowDoNotMatter();
        columnsBoundTheirRooms();
        piecesOfTheSameSizeAreNotCut();
        onlyOpenPanesAreTaken();
        noneMayBeTaken();
        wholeSheetIsAPane();
        thirtySixPanesMakeTheLargestTree();
        planRefuses();
        nodeRefusesInOrder();
        Check.end();
    }

    private static void stripsMakeATree() {
        GlassHall hall = new GlassHall();
        hall.order(40, 30, false, 2);
        hall.order(25, 20, false, 1);
        hall.sheet(100, 90);
        Check.same("panes in strips", hall.plan(0), 3);
        Check.same("nodes", hall.nodes(0), 11);
        Trees.areAs("tree of strips", hall, 0,
                "X 0 0 100 90 40 1 10 1",
                "- 0 0 40 90 30 2 3 0",
                "P 0 0 40 30 0 -1 -1 0",
                "- 0 30 40 60 30 4 5 0",
                "P 0 30 40 30 0 -1 -1 0",
                "- 0 60 40 30 20 6 9 0",
                "X 0 60 40 20 25 7 8 0",
                "P 0 60 25 20 1 -1 -1 0",
                ". 25 60 15 20 -1 -1 -1 0",
                ". 0 80 40 10 -1 -1 -1 0",
                ". 40 0 60 90 -1 -1 -1 0");
    }

    private static void ordersComeByHeightWidthAndNumber() {
        GlassHall hall = new GlassHall();
        hall.order(10, 20, false, 1);
        hall.order(30, 20, false, 1);
        hall.order(5, 50, false, 1);
        hall.order(30, 20, false, 1);
        hall.order(60, 10, false, 1);
        hall.sheet(200, 50);
        Check.same("panes", hall.plan(0), 5);
        Check.same("orders of the panes", ordersOf(hall, 0), "2 1 3 0 4 ");
    }

    private static String ordersOf(GlassHall hall, int id) {
        StringBuilder text = new StringBuilder();
        for (int i = 0; i < hall.nodes(id); i++) {
            if (hall.node(id, i, 0) == 2) {
                text.append(hall.node(id, i, 5)).append(' ');
            }
        }
        return text.toString();
    }

    private static void panesAreTurnedWhenTheyMay() {
        GlassHall hall = new GlassHall();
        hall.order(50, 20, false, 1);
        hall.order(50, 20, true, 1);
        hall.sheet(30, 60);
        Check.same("the turned pane alone", hall.plan(0), 1);
        Trees.areAs("tree of a turned pane", hall, 0,
                "X 0 0 30 60 20 1 4 1",
                "- 0 0 20 60 50 2 3 0",
                "P 0 0 20 50 1 -1 -1 0",
                ". 0 50 20 10 -1 -1 -1 0",
                ". 20 0 10 60 -1 -1 -1 0");
        hall.cancel(0);
        hall.sheet(60, 25);
        hall.plan(1);
        Check.same("a pane as it is comes first", hall.node(1, 2, 3), 50);
    }

    private static void turnedPanesComeBeforeTheNextOrder() {
        GlassHall hall = new GlassHall();
        hall.order(35, 35, false, 1);
        hall.order(30, 40, true, 1);
        hall.sheet(45, 36);
        Check.same("room for one", hall.plan(0), 1);
        Check.same("the higher order, turned", ordersOf(hall, 0), "1 ");
    }

    private static void panesKeepClearOfFlaws() {
        GlassHall hall = new GlassHall();
        hall.order(40, 40, false, 6);
        hall.order(10, 10, false, 1);
        hall.sheet(100, 100);
        hall.flaw(0, 30, 30, 5, 5);
        Check.same("no column after one that has none", hall.plan(0), 1);
        Check.same("the pane that is clear of the flaw", ordersOf(hall, 0), "1 ");
        hall.cancel(0);
        hall.sheet(100, 100);
        hall.flaw(1, 10, 55, 5, 5);
        Check.same("a column that ends below a flaw", hall.plan(1), 4);
        Check.same("its orders", ordersOf(hall, 1), "0 1 0 0 ");
    }

    private static void flawsAtEdgesDoNotMatter() {
        GlassHall hall = new GlassHall();
        hall.order(40, 40, false, 6);
        hall.sheet(80, 80);
        hall.flaw(0, 40, 40, 1, 1);
        Check.same("panes round a flaw", hall.plan(0), 3);
        hall.cancel(0);
        hall.sheet(80, 80);
        hall.flaw(1, 39, 39, 1, 1);
        Check.same("a flaw in the first corner", hall.plan(1), 0);
        hall.sheet(80, 80);
        hall.flaw(2, 0, 79, 1, 1);
        hall.flaw(2, 79, 0, 1, 1);
        Check.same("a flaw at the top and one at the right", hall.plan(2), 1);
    }

    private static void flawsAtLeftAndBelowDoNotMatter() {
        GlassHall hall = new GlassHall();
        hall.order(40, 40, false, 4);
        hall.sheet(80, 80);
        hall.flaw(0, 35, 45, 5, 5);
        Check.same("a flaw that ends where a pane begins", hall.plan(0), 3);
        hall.order(20, 10, false, 1);
        hall.order(40, 8, false, 1);
        hall.sheet(40, 60);
        hall.flaw(1, 30, 45, 5, 5);
        Check.same("a flaw that ends below a pane", hall.plan(1), 3);
        Check.same("its orders", ordersOf(hall, 1), "0 1 2 ");
    }

    private static void columnsBoundTheirRooms() {
        GlassHall hall = new GlassHall();
        hall.order(20, 50, false, 1);
        hall.order(30, 40, false, 1);
        hall.sheet(60, 100);
        Check.same("two columns", hall.plan(0), 2);
        Check.same("width of the first column", hall.node(0, 0, 5), 20);
        Check.same("x of the second column", hall.node(0, 4, 1), 20);
        Check.same("width of what remains", hall.node(0, 4, 3), 40);
        Check.same("width of the second column", hall.node(0, 4, 5), 30);
    }

    private static void piecesOfTheSameSizeAreNotCut() {
        GlassHall hall = new GlassHall();
        hall.order(20, 50, false, 1);
        hall.order(20, 40, false, 1);
        hall.order(15, 90, false, 1);
        hall.sheet(35, 90);
        Check.same("panes that fill the sheet", hall.plan(0), 3);
        Trees.areAs("tree without rests", hall, 0,
                "X 0 0 35 90 15 1 2 1",
                "P 0 0 15 90 2 -1 -1 0",
                "- 15 0 20 90 50 3 4 0",
                "P 15 0 20 50 0 -1 -1 0",
                "P 15 50 20 40 1 -1 -1 0");
    }

    private static void onlyOpenPanesAreTaken() {
        GlassHall hall = new GlassHall();
        hall.order(10, 10, false, 3);
        hall.sheet(20, 10);
        hall.sheet(20, 10);
        hall.sheet(20, 10);
        Check.same("first sheet", hall.plan(0), 2);
        Check.same("second sheet", hall.plan(1), 1);
        Check.same("third sheet", hall.plan(2), 0);
        hall.cancel(0);
        Check.same("third sheet again", hall.plan(2), 2);
    }

    private static void noneMayBeTaken() {
        GlassHall hall = new GlassHall();
        hall.sheet(100, 100);
        Check.same("plan without orders", hall.plan(0), 0);
        hall.order(101, 1, false, 1);
        hall.order(1, 101, false, 1);
        Check.same("plan without fitting orders", hall.plan(0), 0);
        Check.same("planned sheets", hall.total(1), 0);
        Check.same("planned panes", hall.panes(0, 1), 0);
        Check.same("area of unplanned sheets", hall.area(0), 10_000);
        Check.refuses("nodes of a sheet without a plan", IllegalStateException.class, () -> hall.nodes(0));
    }

    private static void wholeSheetIsAPane() {
        GlassHall hall = new GlassHall();
        hall.order(40, 30, true, 2);
        hall.sheet(40, 30);
        hall.sheet(30, 40);
        hall.plan(0);
        hall.plan(1);
        Trees.areAs("a pane as it is", hall, 0, "P 0 0 40 30 0 -1 -1 1");
        Trees.areAs("a turned pane", hall, 1, "P 0 0 30 40 0 -1 -1 1");
    }

    private static void thirtySixPanesMakeTheLargestTree() {
        GlassHall hall = new GlassHall();
        hall.order(20, 50, false, 6);
        for (int i = 0; i < 5; i++) {
            hall.order(10, 9, false, 6);
        }
        hall.sheet(121, 99);
        Check.same("all panes", hall.plan(0), 36);
        Check.same("nodes of all panes", hall.nodes(0), 145);
        Check.same("the last node is the rest", hall.node(0, 144, 3), 1);
        for (int i = 0; i < 72; i++) {
            hall.score(0);
        }
        Check.same("sheets after all cuts", hall.total(0), 0);
        Check.same("done panes", hall.area(1), 6 * 1000 + 30 * 90);
        Check.same("waste", hall.area(3), 121 * 99 - 6 * 1000 - 30 * 90);
    }

    private static void planRefuses() {
        GlassHall hall = new GlassHall();
        hall.order(10, 10, false, 6);
        hall.sheet(20, 20);
        Check.refuses("no sheet", NoSuchElementException.class, () -> hall.plan(1));
        Check.refuses("a negative id", NoSuchElementException.class, () -> hall.plan(-1));
        hall.plan(0);
        Check.refuses("a planned sheet", IllegalStateException.class, () -> hall.plan(0));
        hall.score(0);
        Check.refuses("a scored sheet", IllegalStateException.class, () -> hall.plan(0));
    }

    private static void nodeRefusesInOrder() {
        GlassHall hall = new GlassHall();
        hall.order(10, 10, false, 1);
        hall.sheet(20, 10);
        hall.sheet(20, 10);
        hall.plan(0);
        Check.refuses("node of no sheet", NoSuchElementException.class, () -> hall.node(2, 9, 9));
        Check.refuses("nodes of no sheet", NoSuchElementException.class, () -> hall.nodes(2));
        Check.refuses("node of an unplanned sheet", IllegalStateException.class, () -> hall.node(1, 9, 9));
        Check.refuses("nodes of an unplanned sheet", IllegalStateException.class, () -> hall.nodes(1));
        Check.refuses("no node", IndexOutOfBoundsException.class, () -> hall.node(0, 3, 9));
        Check.refuses("a negative node", IndexOutOfBoundsException.class, () -> hall.node(0, -1, 0));
        Check.refuses("another what", IllegalArgumentException.class, () -> hall.node(0, 0, 9));
        Check.refuses("a negative what", IllegalArgumentException.class, () -> hall.node(0, 0, -1));
        hall.cancel(0);
        Check.refuses("node after cancel", IllegalStateException.class, () -> hall.node(0, 0, 0));
    }
}
