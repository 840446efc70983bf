/** Promise 10, broke. */
public final class BrokeTest {
    public static void main(String[] args) {
        aPieceBreaksWithAllBelow();
        itsPanesAreOpenAgain();
        theLastPartBreaks();
        theWholeSheetBreaks();
        aWholePaneBreaks();
        theLastPieceThatWaitsBreaks();
        restsOfABrokenPieceAreNoOffcuts();
        panesThatAreDoneStayDone();
        aPaneBesideItStaysDone();
        noSuchSheetIsToldFirst();
        notPlannedIsToldBeforeNoSuchNode();
        noSuchNodeIsRefused();
        whatDoesNotWaitIsRefused();
        Check.end();
    }

    /** "A piece that waits breaks, as the glass of all nodes below it: these are broken". */
    private static void aPieceBreaksWithAllBelow() {
        Hall hall = Check.hallOf(Scenes::scoredOnce);
        hall.broke(0, 1);
        Check.same("states", Trees.states(hall, 0), "233333100");
        Check.same("broken area", hall.area(4), 3000);
        Check.same("waiting area", hall.area(5), 3000);
        Check.same("sheets", hall.total(0), 1);
        Check.same("planned sheets", hall.total(1), 1);
    }

    /** "its panes are open again: how many". */
    private static void itsPanesAreOpenAgain() {
        Hall hall = Check.hallOf(Scenes::scoredOnce);
        Check.same("panes of two rows", hall.broke(0, 1), 2);
        Check.same("panes", Story.panes(hall, 0), "2 1 0");
        hall.sheet(30, 80);
        Check.same("plan of what is open again", hall.plan(1), 2);
        Check.same("panes of one row", Check.hallOf(Scenes::scoredOnce).broke(0, 6), 1);
    }

    private static void theLastPartBreaks() {
        Hall hall = Check.hallOf(Scenes::scoredOnce);
        hall.broke(0, 6);
        Check.same("states", Trees.states(hall, 0), "210000333");
        Check.same("panes", Story.panes(hall, 0), "1 2 0");
        Check.same("the next cut", hall.score(0), 1);
        Check.same("panes of the last piece", hall.broke(0, 3), 1);
        Check.same("sheets", hall.total(0), 0);
    }

    private static void theWholeSheetBreaks() {
        Hall hall = Check.hallOf(Scenes::planned);
        Check.same("panes of the whole sheet", hall.broke(0, 0), 3);
        Check.same("sheets", hall.total(0), 0);
        Check.same("panes", Story.panes(hall, 0), "3 0 0");
        Check.same("broken area", hall.area(4), 6000);
        Check.same("waiting area", hall.area(5), 0);
        Check.same("area of sheets", hall.area(0), 0);
        Check.same("broke of what is gone", Check.outcome(hall, h -> h.broke(0, 0)), "throws NoSuchElementException");
    }

    private static void aWholePaneBreaks() {
        Hall hall = new CountedHall();
        hall.order(30, 40, false, 1);
        hall.sheet(30, 40);
        hall.plan(0);
        Check.same("panes of a sheet that is one", hall.broke(0, 0), 1);
        Check.same("panes", Story.panes(hall, 0), "1 0 0");
        Check.same("sheets", hall.total(0), 0);
        Check.same("broken area", hall.area(4), 1200);
        Check.same("area of done panes", hall.area(1), 0);
    }

    /** "When nothing waits any more, the sheet is not there any more". */
    private static void theLastPieceThatWaitsBreaks() {
        Hall hall = Check.hallOf(Scenes::scoredOnce);
        hall.broke(0, 6);
        Check.same("sheets while a piece waits", hall.total(0), 1);
        hall.broke(0, 1);
        Check.same("sheets when none waits", hall.total(0), 0);
        Check.same("broken area", hall.area(4), 6000);
        Check.same("panes", Story.panes(hall, 0), "3 0 0");
    }

    private static void restsOfABrokenPieceAreNoOffcuts() {
        Hall hall = new CountedHall();
        hall.order(400, 300, false, 1);
        hall.sheet(900, 900);
        hall.plan(0);
        hall.score(0);
        Check.same("offcuts of the first cut", hall.total(3), 1);
        hall.broke(0, 1);
        Check.same("offcuts when the other part broke", hall.total(3), 1);
        Check.same("waste", hall.area(3), 0);
        Check.same("broken area", hall.area(4), 360_000);
    }

    private static void panesThatAreDoneStayDone() {
        Hall hall = Check.hallOf(Scenes::scoredOnce);
        hall.score(0);
        Check.same("panes of what remains", hall.broke(0, 3), 1);
        Check.same("panes", Story.panes(hall, 0), "1 1 1");
        Check.same("states", Trees.states(hall, 0), "222333100");
    }

    /** Only what is below it breaks: not the node that comes next, which is a pane here. */
    private static void aPaneBesideItStaysDone() {
        Hall hall = new CountedHall();
        hall.order(30, 20, false, 2);
        hall.order(20, 40, false, 1);
        hall.sheet(50, 40);
        hall.exact(0, 0, 0, 1);
        hall.score(0);
        Check.same("states after the cut", Trees.states(hall, 0), "21002");
        Check.same("panes of the column", hall.broke(0, 1), 2);
        Check.same("panes of order 0", Story.panes(hall, 0), "2 0 0");
        Check.same("panes of order 1", Story.panes(hall, 1), "0 0 1");
        Check.same("sheets", hall.total(0), 0);
    }

    private static void noSuchSheetIsToldFirst() {
        Check.noSuchSheet("broke", (h, id) -> h.broke(id, 0));
        Check.noSuchSheet("broke of no node", (h, id) -> h.broke(id, -1));
    }

    /** "IllegalState: the sheet is not planned; IndexOutOfBounds: there is no such node". */
    private static void notPlannedIsToldBeforeNoSuchNode() {
        for (int node : new int[] {0, -1, 1, 145, Check.MIN, Check.MAX}) {
            Check.notPlanned("broke of node " + node, (h, id) -> h.broke(id, node));
        }
    }

    private static void noSuchNodeIsRefused() {
        for (int node : new int[] {-1, 9, 144, 145, Check.MIN, Check.MAX}) {
            Check.refused("broke of node " + node, Scenes::scoredOnce, Check.INDEX, h -> h.broke(0, node));
        }
    }

    /** "IllegalState: it does not wait": it is to come, over or broken. */
    private static void whatDoesNotWaitIsRefused() {
        for (int node = 1; node < 9; node++) {
            int toCome = node;
            Check.refused("broke of what is to come, " + node, Scenes::planned, Check.STATE, h -> h.broke(0, toCome));
        }
        Check.Scene scene = h -> {
            Scenes.scoredOnce(h);
            h.score(0);
            h.broke(0, 3);
        };
        for (int node : new int[] {0, 1, 2, 3, 4, 5, 7, 8}) {
            Check.refused("broke of node " + node, scene, Check.STATE, h -> h.broke(0, node));
        }
        Check.same("broke of the one that waits", Check.hallOf(scene).broke(0, 6), 1);
    }
}
