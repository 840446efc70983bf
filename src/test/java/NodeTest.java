/** Promises 7, node, and 8, nodes, and what the terms say of the tree of a layout. */
public final class NodeTest {
    private static final int NONE = Hall.NONE;

    public static void main(String[] args) {
        aPaneAsLargeAsTheSheetIsNotCut();
        aColumnAsWideAsTheSheetIsNotCut();
        theLastColumnAsWideAsWhatRemainsIsNotCut();
        aRowAsHighAsTheColumnIsNotCut();
        theLastRowAsHighAsWhatRemainsIsNotCut();
        aPaneAsWideAsTheRowIsNotCut();
        theLastPaneAsWideAsWhatRemainsIsNotCut();
        aPaneAsHighAsTheCellIsNotCut();
        restsAreWhatHasNothingLeft();
        nodesAreNumberedFirstPartFirst();
        cutsAreToldFromTheirOwnEdges();
        tellsTheOrderOfThePane();
        tellsAllStates();
        theLastNodeIsToldTheNextIsRefused();
        anotherWhatIsRefused();
        noSuchSheetIsToldFirst();
        notPlannedIsToldBeforeNoSuchNode();
        noSuchNodeIsToldBeforeAnotherWhat();
        nodesOfWhatIsNotPlannedAreRefused();
        aSheetOfOnePieceHasOneNode();
        Check.end();
    }

    private static Hall planned(int w, int h, int[]... orders) {
        Hall hall = Scenes.sheetOf(w, h, orders);
        hall.plan(0);
        return hall;
    }

    private static Hall tried(int w, int h, int[]... orders) {
        Hall hall = Scenes.sheetOf(w, h, orders);
        hall.exact(0, 0, orders.length > 1 ? 1 : NONE, orders.length > 2 ? 2 : NONE);
        return hall;
    }

    private static int[] order(int w, int h, int n) {
        return new int[] {w, h, 0, n};
    }

    private static void aPaneAsLargeAsTheSheetIsNotCut() {
        Trees.areAs("by strips", planned(40, 30, order(40, 30, 1)), 0, "P 0 0 40 30 0 -1 -1 1");
        Trees.areAs("by trying", tried(40, 30, order(40, 30, 1)), 0, "P 0 0 40 30 0 -1 -1 1");
    }

    /** "when the first of them is less wide, CUT crossways at its width ...; otherwise it is that column's piece". */
    private static void aColumnAsWideAsTheSheetIsNotCut() {
        Trees.areAs("a column just as wide", planned(40, 31, order(40, 30, 1)), 0,
                "- 0 0 40 31 30 1 2 1",
                "P 0 0 40 30 0 -1 -1 0",
                ". 0 30 40 1 -1 -1 -1 0");
        Trees.areAs("a column less wide by 1", planned(41, 31, order(40, 30, 1)), 0,
                "X 0 0 41 31 40 1 4 1",
                "- 0 0 40 31 30 2 3 0",
                "P 0 0 40 30 0 -1 -1 0",
                ". 0 30 40 1 -1 -1 -1 0",
                ". 40 0 1 31 -1 -1 -1 0");
    }

    private static void theLastColumnAsWideAsWhatRemainsIsNotCut() {
        Trees.areAs("two columns just as wide", planned(70, 30, order(40, 30, 1), order(30, 30, 1)), 0,
                "X 0 0 70 30 40 1 2 1",
                "P 0 0 40 30 0 -1 -1 0",
                "P 40 0 30 30 1 -1 -1 0");
        Trees.areAs("two columns less wide by 1", planned(71, 30, order(40, 30, 1), order(30, 30, 1)), 0,
                "X 0 0 71 30 40 1 2 1",
                "P 0 0 40 30 0 -1 -1 0",
                "X 40 0 31 30 30 3 4 0",
                "P 40 0 30 30 1 -1 -1 0",
                ". 70 0 1 30 -1 -1 -1 0");
    }

    /** "A column's piece, likewise by its rows: cut lengthways at the first row's height". */
    private static void aRowAsHighAsTheColumnIsNotCut() {
        Trees.areAs("a row just as high", planned(41, 30, order(40, 30, 1)), 0,
                "X 0 0 41 30 40 1 2 1",
                "P 0 0 40 30 0 -1 -1 0",
                ". 40 0 1 30 -1 -1 -1 0");
        Trees.areAs("a row less high by 1", planned(40, 31, order(40, 30, 1)), 0,
                "- 0 0 40 31 30 1 2 1",
                "P 0 0 40 30 0 -1 -1 0",
                ". 0 30 40 1 -1 -1 -1 0");
    }

    private static void theLastRowAsHighAsWhatRemainsIsNotCut() {
        Trees.areAs("two rows just as high", planned(40, 50, order(40, 30, 1), order(40, 20, 1)), 0,
                "- 0 0 40 50 30 1 2 1",
                "P 0 0 40 30 0 -1 -1 0",
                "P 0 30 40 20 1 -1 -1 0");
        Trees.areAs("two rows less high by 1", planned(40, 51, order(40, 30, 1), order(40, 20, 1)), 0,
                "- 0 0 40 51 30 1 2 1",
                "P 0 0 40 30 0 -1 -1 0",
                "- 0 30 40 21 20 3 4 0",
                "P 0 30 40 20 1 -1 -1 0",
                ". 0 50 40 1 -1 -1 -1 0");
    }

    /** "A row's piece, likewise by its panes: cut crossways at the first pane's width, into a cell and ...". */
    private static void aPaneAsWideAsTheRowIsNotCut() {
        Trees.areAs("a pane just as wide as its row", planned(40, 50, order(40, 30, 1), order(40, 20, 1)), 0,
                "- 0 0 40 50 30 1 2 1",
                "P 0 0 40 30 0 -1 -1 0",
                "P 0 30 40 20 1 -1 -1 0");
        Trees.areAs("a pane less wide by 1 than its row", planned(40, 50, order(40, 30, 1), order(39, 20, 1)), 0,
                "- 0 0 40 50 30 1 2 1",
                "P 0 0 40 30 0 -1 -1 0",
                "X 0 30 40 20 39 3 4 0",
                "P 0 30 39 20 1 -1 -1 0",
                ". 39 30 1 20 -1 -1 -1 0");
    }

    private static void theLastPaneAsWideAsWhatRemainsIsNotCut() {
        Trees.areAs("a row just as wide", tried(60, 20, order(20, 20, 1), order(40, 20, 1)), 0,
                "X 0 0 60 20 20 1 2 1",
                "P 0 0 20 20 0 -1 -1 0",
                "P 20 0 40 20 1 -1 -1 0");
        Trees.areAs("a row less wide by 1 than its column",
                tried(61, 40, order(20, 20, 1), order(40, 20, 1), order(61, 20, 1)), 0,
                "- 0 0 61 40 20 1 6 1",
                "X 0 0 61 20 20 2 3 0",
                "P 0 0 20 20 0 -1 -1 0",
                "X 20 0 41 20 40 4 5 0",
                "P 20 0 40 20 1 -1 -1 0",
                ". 60 0 1 20 -1 -1 -1 0",
                "P 0 20 61 20 2 -1 -1 0");
    }

    /** "A cell is, when the pane is less high, cut lengthways at the pane's height ...; otherwise it is the pane". */
    private static void aPaneAsHighAsTheCellIsNotCut() {
        Trees.areAs("the first less high by 1", tried(60, 20, order(20, 19, 1), order(40, 20, 1)), 0,
                "X 0 0 60 20 20 1 4 1",
                "- 0 0 20 20 19 2 3 0",
                "P 0 0 20 19 0 -1 -1 0",
                ". 0 19 20 1 -1 -1 -1 0",
                "P 20 0 40 20 1 -1 -1 0");
        Trees.areAs("the second less high by 1", tried(60, 20, order(20, 20, 1), order(40, 19, 1)), 0,
                "X 0 0 60 20 20 1 2 1",
                "P 0 0 20 20 0 -1 -1 0",
                "- 20 0 40 20 19 3 4 0",
                "P 20 0 40 19 1 -1 -1 0",
                ". 20 19 40 1 -1 -1 -1 0");
    }

    /** "A piece that has nothing left is a REST": of columns, of rows, of panes, and of a cell. */
    private static void restsAreWhatHasNothingLeft() {
        Trees.areAs("all kinds of rests",
                tried(100, 90, order(50, 40, 1), order(30, 30, 1), order(85, 20, 1)), 0,
                "X 0 0 100 90 85 1 12 1",
                "- 0 0 85 90 40 2 9 0",
                "X 0 0 85 40 50 3 4 0",
                "P 0 0 50 40 0 -1 -1 0",
                "X 50 0 35 40 30 5 8 0",
                "- 50 0 30 40 30 6 7 0",
                "P 50 0 30 30 1 -1 -1 0",
                ". 50 30 30 10 -1 -1 -1 0",
                ". 80 0 5 40 -1 -1 -1 0",
                "- 0 40 85 50 20 10 11 0",
                "P 0 40 85 20 2 -1 -1 0",
                ". 0 60 85 30 -1 -1 -1 0",
                ". 85 0 15 90 -1 -1 -1 0");
    }

    /** "numbered from 0, the whole sheet, each before what it is cut into, and all of the first part before ...". */
    private static void nodesAreNumberedFirstPartFirst() {
        Trees.areAs("tree of strips", planned(100, 90, order(40, 30, 2), order(25, 20, 1)), 0,
                "X 0 0 100 90 40 1 10 1",
                "- 0 0 40 90 30 2 3 0",
                "P 0 0 40 30 0 -1 -1 0",
                "- 0 30 40 60 30 4 5 0",
                "P 0 30 40 30 0 -1 -1 0",
                "- 0 60 40 30 20 6 9 0",
                "X 0 60 40 20 25 7 8 0",
                "P 0 60 25 20 1 -1 -1 0",
                ". 25 60 15 20 -1 -1 -1 0",
                ". 0 80 40 10 -1 -1 -1 0",
                ". 40 0 60 90 -1 -1 -1 0");
    }

    /** "where it is cut, from its own left or lower edge". */
    private static void cutsAreToldFromTheirOwnEdges() {
        Hall hall = planned(100, 100, order(60, 60, 1), order(30, 50, 2));
        Trees.areAs("a second column with two rows", hall, 0,
                "X 0 0 100 100 60 1 4 1",
                "- 0 0 60 100 60 2 3 0",
                "P 0 0 60 60 0 -1 -1 0",
                ". 0 60 60 40 -1 -1 -1 0",
                "X 60 0 40 100 30 5 8 0",
                "- 60 0 30 100 50 6 7 0",
                "P 60 0 30 50 1 -1 -1 0",
                "P 60 50 30 50 1 -1 -1 0",
                ". 90 0 10 100 -1 -1 -1 0");
    }

    private static void tellsTheOrderOfThePane() {
        Hall hall = new CountedHall();
        for (int i = 0; i < 6; i++) {
            hall.order(10, 10 + i, false, 1);
        }
        hall.sheet(60, 15);
        hall.plan(0);
        Check.same("orders of the panes, the highest first", Trees.panes(hall, 0),
                "5:0,0,10,15 4:10,0,10,14 3:20,0,10,13 2:30,0,10,12 1:40,0,10,11 0:50,0,10,10");
    }

    /** "0 to come, 1 it waits, 2 over, 3 broken". */
    private static void tellsAllStates() {
        Hall hall = Check.hallOf(Scenes::planned);
        Check.same("states at first", Trees.states(hall, 0), "100000000");
        hall.score(0);
        hall.score(0);
        hall.broke(0, 3);
        Check.same("states after two cuts, when one piece broke", Trees.states(hall, 0), "222333100");
    }

    /** "IndexOutOfBounds: there is no such node". */
    private static void theLastNodeIsToldTheNextIsRefused() {
        Hall hall = Check.hallOf(Scenes::planned);
        Check.same("kind of the last node", hall.node(0, 8, 0), 3);
        for (int i : new int[] {-1, 9, 144, 145, Check.MIN, Check.MAX}) {
            Check.refused("node " + i, Scenes::planned, Check.INDEX, h -> h.node(0, i, 0));
        }
    }

    /** "IllegalArgument: another what". */
    private static void anotherWhatIsRefused() {
        for (int what : new int[] {-1, 9, Check.MIN, Check.MAX}) {
            Check.refused("what = " + what, Scenes::planned, Check.ARGUMENT, h -> h.node(0, 8, what));
        }
    }

    private static void noSuchSheetIsToldFirst() {
        Check.noSuchSheet("node", (h, id) -> h.node(id, 0, 0));
        Check.noSuchSheet("another what of no node", (h, id) -> h.node(id, -1, 9));
        Check.noSuchSheet("nodes", Hall::nodes);
    }

    /** "IllegalState: it is not planned", before the node and the what. */
    private static void notPlannedIsToldBeforeNoSuchNode() {
        Check.notPlanned("node", (h, id) -> h.node(id, 0, 0));
        Check.notPlanned("no node", (h, id) -> h.node(id, -1, 0));
        Check.notPlanned("another what", (h, id) -> h.node(id, 0, 9));
        Check.notPlanned("another what of no node", (h, id) -> h.node(id, 9, -1));
    }

    private static void noSuchNodeIsToldBeforeAnotherWhat() {
        for (int i : new int[] {-1, 9, Check.MIN, Check.MAX}) {
            Check.refused("another what of node " + i, Scenes::planned, Check.INDEX, h -> h.node(0, i, 9));
        }
    }

    /** Promise 8: "IllegalState: it is not planned". */
    private static void nodesOfWhatIsNotPlannedAreRefused() {
        Check.notPlanned("nodes", Hall::nodes);
    }

    /** Promise 8: "How many nodes a planned sheet has"; they stay when it is cut. */
    private static void aSheetOfOnePieceHasOneNode() {
        Check.same("nodes of one pane", planned(40, 30, order(40, 30, 1)).nodes(0), 1);
        Check.same("nodes of one cut", planned(41, 30, order(40, 30, 1)).nodes(0), 3);
        Check.same("nodes of three panes", Check.hallOf(Scenes::planned).nodes(0), 9);
        Check.same("nodes after a cut", Check.hallOf(Scenes::scoredOnce).nodes(0), 9);
    }
}
