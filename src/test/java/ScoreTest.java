import java.util.NoSuchElementException;

/** Promises 9 (score), 10 (broke) and 11 (cancel). */
public final class ScoreTest {
    public static void main(String[] args) {
        cutsComeInTheOrderOfNodes();
        aWholePaneIsTaken();
        aNewPlanBeginsAnew();
        scoreRefuses();
        piecesThatWaitBreak();
        aWholeSheetBreaks();
        theLastPieceBreaks();
        brokeRefusesInOrder();
        cancelOpensPanes();
        cancelRefuses();
        Check.end();
    }

    /** Nodes: 0 X, 1 -, 2 pane, 3 -, 4 pane, 5 rest, 6 -, 7 pane, 8 rest. */
    private static GlassHall plannedHall() {
        GlassHall hall = new GlassHall();
        hall.order(30, 40, false, 3);
        hall.sheet(60, 100);
        hall.plan(0);
        return hall;
    }

    private static String states(GlassHall hall) {
        StringBuilder text = new StringBuilder();
        for (int i = 0; i < hall.nodes(0); i++) {
            text.append(hall.node(0, i, 8));
        }
        return text.toString();
    }

    private static void cutsComeInTheOrderOfNodes() {
        GlassHall hall = plannedHall();
        Check.same("states at first", states(hall), "100000000");
        Check.same("first score", hall.score(0), 0);
        Check.same("states after it", states(hall), "210000100");
        Check.same("second score", hall.score(0), 1);
        Check.same("states after it", states(hall), "222100100");
        Check.same("done panes", hall.panes(0, 2), 1);
        Check.same("third score", hall.score(0), 3);
        Check.same("states after it", states(hall), "222222100");
        Check.same("waste", hall.area(3), 600);
        Check.same("last score", hall.score(0), 6);
        Check.same("sheets", hall.total(0), 0);
        Check.same("done panes at last", hall.panes(0, 2), 3);
        Check.same("waste at last", hall.area(3), 600 + 1800);
        Check.refuses("a sheet that is gone", NoSuchElementException.class, () -> hall.score(0));
    }

    private static void aWholePaneIsTaken() {
        GlassHall hall = new GlassHall();
        hall.order(400, 300, false, 1);
        hall.sheet(400, 300);
        hall.plan(0);
        Check.same("score of a whole pane", hall.score(0), 0);
        Check.same("done panes", hall.panes(0, 2), 1);
        Check.same("area of done panes", hall.area(1), 120_000);
        Check.same("sheets", hall.total(0), 0);
        Check.same("offcuts", hall.total(3), 0);
    }

    private static void aNewPlanBeginsAnew() {
        GlassHall hall = plannedHall();
        for (int i = 0; i < 3; i++) {
            hall.score(0);
        }
        hall.broke(0, 6);
        hall.order(30, 40, false, 2);
        int id = hall.sheet(60, 100);
        hall.plan(id);
        for (int i = 1; i < hall.nodes(id); i++) {
            Check.same("state of a node to come", hall.node(id, i, 8), 0);
        }
        Check.same("panes of the new plan", hall.cancel(id), 3);
    }

    private static void scoreRefuses() {
        GlassHall hall = plannedHall();
        hall.sheet(10, 10);
        Check.refuses("no sheet", NoSuchElementException.class, () -> hall.score(2));
        Check.refuses("a sheet without a plan", IllegalStateException.class, () -> hall.score(1));
    }

    private static void piecesThatWaitBreak() {
        GlassHall hall = plannedHall();
        hall.score(0);
        Check.same("panes of node 1", hall.broke(0, 1), 2);
        Check.same("states after it", states(hall), "233333100");
        Check.same("open panes", hall.panes(0, 0), 2);
        Check.same("planned panes", hall.panes(0, 1), 1);
        Check.same("broken area", hall.area(4), 3000);
        Check.same("waiting area", hall.area(5), 3000);
        Check.refuses("it breaks once", IllegalStateException.class, () -> hall.broke(0, 1));
        Check.same("the next cut", hall.score(0), 6);
        Check.same("sheets", hall.total(0), 0);
        hall.sheet(30, 80);
        Check.same("panes that opened are planned again", hall.plan(1), 2);
    }

    private static void aWholeSheetBreaks() {
        GlassHall hall = plannedHall();
        Check.same("panes of the whole sheet", hall.broke(0, 0), 3);
        Check.same("sheets", hall.total(0), 0);
        Check.same("broken area", hall.area(4), 6000);
        Check.same("waiting area", hall.area(5), 0);
        Check.refuses("it is gone", NoSuchElementException.class, () -> hall.broke(0, 0));
        hall.sheet(30, 40);
        hall.plan(1);
        Check.same("panes of a sheet that is a pane", hall.broke(1, 0), 1);
        Check.same("open panes", hall.panes(0, 0), 3);
        Check.same("broken area", hall.area(4), 7200);
    }

    private static void theLastPieceBreaks() {
        GlassHall hall = plannedHall();
        hall.score(0);
        hall.score(0);
        Check.same("panes of the second column", hall.broke(0, 6), 1);
        Check.same("states after it", states(hall), "222100333");
        Check.same("panes of the last piece", hall.broke(0, 3), 1);
        Check.same("sheets", hall.total(0), 0);
        Check.same("done panes", hall.panes(0, 2), 1);
        Check.same("broken area", hall.area(4), 3000 + 1800);
    }

    private static void brokeRefusesInOrder() {
        GlassHall hall = plannedHall();
        hall.sheet(10, 10);
        hall.score(0);
        hall.score(0);
        Check.refuses("no sheet", NoSuchElementException.class, () -> hall.broke(2, 99));
        Check.refuses("a sheet without a plan", IllegalStateException.class, () -> hall.broke(1, 99));
        Check.refuses("no node", IndexOutOfBoundsException.class, () -> hall.broke(0, 9));
        Check.refuses("a negative node", IndexOutOfBoundsException.class, () -> hall.broke(0, -1));
        Check.refuses("a node that is over", IllegalStateException.class, () -> hall.broke(0, 0));
        Check.refuses("a pane that is done", IllegalStateException.class, () -> hall.broke(0, 2));
        Check.refuses("a node to come", IllegalStateException.class, () -> hall.broke(0, 4));
        Check.same("broken area", hall.area(4), 0);
    }

    private static void cancelOpensPanes() {
        GlassHall hall = plannedHall();
        Check.same("panes of the plan", hall.cancel(0), 3);
        Check.same("open panes", hall.panes(0, 0), 3);
        Check.same("planned sheets", hall.total(1), 0);
        Check.same("area of unplanned sheets", hall.area(0), 6000);
        Check.same("waiting area", hall.area(5), 0);
        Check.same("planned again", hall.plan(0), 3);
        Check.same("nodes again", hall.nodes(0), 9);
    }

    private static void cancelRefuses() {
        GlassHall hall = plannedHall();
        hall.sheet(10, 10);
        Check.refuses("no sheet", NoSuchElementException.class, () -> hall.cancel(2));
        Check.refuses("a sheet without a plan", IllegalStateException.class, () -> hall.cancel(1));
        hall.score(0);
        Check.refuses("a scored sheet", IllegalStateException.class, () -> hall.cancel(0));
        hall.broke(0, 1);
        Check.refuses("a scored sheet with a broken piece", IllegalStateException.class, () -> hall.cancel(0));
        Check.same("planned panes", hall.panes(0, 1), 1);
    }
}
