/** Promise 6, exact, and what the terms say of layouts that are tried. */
public final class ExactTest {
    private static final int NONE = Hall.NONE;

    public static void main(String[] args) {
        onePaneIsTried();
        twoPanesAreTried();
        threePanesAreTried();
        noneNamesNone();
        columnsTogetherAreNoWider();
        rowsTogetherAreNoHigher();
        rowsAreAsHighAsTheirHighestPane();
        columnsAreAsWideAsTheirWidestRow();
        everyColumnIsNoHigher();
        aRowComesBeforeTwo();
        turnedInTheRowComesBeforeTheNextRow();
        asItIsComesBeforeTurnedInARow();
        asItIsComesBeforeTurnedInTheNextRow();
        asItIsComesBeforeTurnedInAThirdRow();
        asItIsComesBeforeTurnedInAColumn();
        asItIsComesBeforeTurnedInARowOfAColumn();
        rowsOfAColumnComeBeforeTheNextColumn();
        theFirstPaneWeighsMost();
        theSecondPaneWeighsMoreThanTheThird();
        aPaneGoesBackToAnEarlierRow();
        aPaneGoesBackToAnEarlierColumn();
        aColumnHasTwoRows();
        panesOfARowStandInTheOrderOfNaming();
        panesThatMayNotAreNotTurned();
        squaresThatMayBeTurnedAreTaken();
        noneFitsAndNothingChanges();
        asManyOpenPanesAsAreNamed();
        plannedAndDonePanesAreNotOpen();
        noSuchSheetIsToldFirst();
        noSuchOrderIsRefused();
        noSuchOrderIsToldBeforeTheState();
        plannedSheetsAreRefused();
        sheetsWithFlawsAreRefused();
        refusedNamesAreForgotten();
        Check.end();
    }

    private static int[] order(int w, int h, int n) {
        return new int[] {w, h, 0, n};
    }

    private static int[] turning(int w, int h, int n) {
        return new int[] {w, h, 1, n};
    }

    /** Tries one pane of each order, by their numbers, and tells them as they lie, each as order:x,y,w,h. */
    private static String trial(int w, int h, int[]... orders) {
        Hall hall = Scenes.sheetOf(w, h, orders);
        return panes(hall, hall.exact(0, 0, orders.length > 1 ? 1 : NONE, orders.length > 2 ? 2 : NONE));
    }

    private static String panes(Hall hall, int answer) {
        if (answer == 0) {
            return "none";
        }
        String panes = Trees.panes(hall, 0);
        Check.same("how many panes of " + panes, answer, panes.split(" ").length);
        return panes;
    }

    /** "Of one to three panes". */
    private static void onePaneIsTried() {
        Check.same("a pane as large as the sheet", trial(30, 20, order(30, 20, 1)), "0:0,0,30,20");
        Check.same("a pane too wide by 1", trial(29, 20, order(30, 20, 1)), "none");
        Check.same("a pane too high by 1", trial(30, 19, order(30, 20, 1)), "none");
        Check.same("a pane that has to turn", trial(20, 30, turning(30, 20, 1)), "0:0,0,20,30");
        Check.same("a turned pane too wide by 1", trial(19, 30, turning(30, 20, 1)), "none");
        Check.same("a turned pane too high by 1", trial(20, 29, turning(30, 20, 1)), "none");
    }

    private static void twoPanesAreTried() {
        Hall hall = Scenes.sheetOf(100, 100, new int[][] {order(30, 20, 2)});
        Check.same("an order named twice", panes(hall, hall.exact(0, 0, 0, NONE)), "0:0,0,30,20 0:30,0,30,20");
        Check.same("panes", Story.panes(hall, 0), "0 2 0");
    }

    private static void threePanesAreTried() {
        Hall hall = Scenes.sheetOf(100, 50, new int[][] {order(30, 50, 3)});
        Check.same("an order named three times", hall.exact(0, 0, 0, 0), 3);
        Trees.areAs("their tree", hall, 0,
                "X 0 0 100 50 90 1 6 1",
                "X 0 0 90 50 30 2 3 0",
                "P 0 0 30 50 0 -1 -1 0",
                "X 30 0 60 50 30 4 5 0",
                "P 30 0 30 50 0 -1 -1 0",
                "P 60 0 30 50 0 -1 -1 0",
                ". 90 0 10 50 -1 -1 -1 0");
        Check.same("panes", Story.panes(hall, 0), "0 3 0");
    }

    /** "NONE for b and c names none": for one of them, or for both. */
    private static void noneNamesNone() {
        Hall hall = Scenes.sheetOf(100, 20, new int[][] {order(30, 20, 3), order(10, 20, 3)});
        Check.same("a alone", panes(hall, hall.exact(0, 1, NONE, NONE)), "1:0,0,10,20");
        hall.cancel(0);
        Check.same("a and b", panes(hall, hall.exact(0, 1, 0, NONE)), "1:0,0,10,20 0:10,0,30,20");
        hall.cancel(0);
        Check.same("a and c", panes(hall, hall.exact(0, 1, NONE, 0)), "1:0,0,10,20 0:10,0,30,20");
        hall.cancel(0);
        Check.same("a, b and c", panes(hall, hall.exact(0, 1, 0, 1)), "1:0,0,10,20 0:10,0,30,20 1:40,0,10,20");
    }

    /** "It fits when the columns together are no wider than the sheet". */
    private static void columnsTogetherAreNoWider() {
        int[] pane = order(30, 20, 1);
        Check.same("a row just as wide", trial(90, 20, pane, pane, pane), "0:0,0,30,20 1:30,0,30,20 2:60,0,30,20");
        Check.same("a row too wide by 1", trial(89, 20, pane, pane, pane), "none");
        Check.same("two columns just as wide", trial(50, 40, order(30, 20, 1), order(30, 20, 1), order(20, 40, 1)),
                "0:0,0,30,20 1:0,20,30,20 2:30,0,20,40");
        Check.same("two columns too wide by 1", trial(49, 40, order(30, 20, 1), order(30, 20, 1), order(20, 40, 1)),
                "none");
    }

    /** "and each one's rows together no higher". */
    private static void rowsTogetherAreNoHigher() {
        int[] pane = order(30, 20, 1);
        Check.same("three rows just as high", trial(30, 60, pane, pane, pane),
                "0:0,0,30,20 1:0,20,30,20 2:0,40,30,20");
        Check.same("three rows too high by 1", trial(30, 59, pane, pane, pane), "none");
        Check.same("two rows just as high", trial(60, 40, pane, pane, pane),
                "0:0,0,30,20 1:30,0,30,20 2:0,20,30,20");
        Check.same("two rows too high by 1", trial(60, 39, pane, pane, pane), "none");
        Check.same("two rows too wide by 1", trial(59, 40, pane, pane, pane), "none");
    }

    /** "ROWS ..., each as high as its highest pane". */
    private static void rowsAreAsHighAsTheirHighestPane() {
        int[][] orders = {order(20, 30, 1), order(20, 31, 1), order(40, 10, 1)};
        Check.same("a row of 31 and one of 10", trial(40, 41, orders), "0:0,0,20,30 1:20,0,20,31 2:0,31,40,10");
        Check.same("in a sheet of 40", trial(40, 40, orders), "none");
    }

    /** "COLUMNS ..., each as wide as its widest row". */
    private static void columnsAreAsWideAsTheirWidestRow() {
        int[][] lowerWide = {order(30, 20, 1), order(29, 20, 1), order(20, 40, 1)};
        Check.same("the lower row is wider", trial(50, 40, lowerWide), "0:0,0,30,20 1:0,20,29,20 2:30,0,20,40");
        Check.same("too wide by 1", trial(49, 40, lowerWide), "none");
        int[][] upperWide = {order(29, 20, 1), order(30, 20, 1), order(20, 40, 1)};
        Check.same("the upper row is wider", trial(50, 40, upperWide), "0:0,0,29,20 1:0,20,30,20 2:30,0,20,40");
        Check.same("too wide by 1", trial(49, 40, upperWide), "none");
    }

    private static void everyColumnIsNoHigher() {
        int[][] orders = {order(20, 40, 1), order(30, 20, 1), order(30, 20, 1)};
        Check.same("the second column just as high", trial(50, 40, orders), "0:0,0,20,40 1:20,0,30,20 2:20,20,30,20");
        Check.same("both too high by 1", trial(50, 39, orders), "none");
        int[][] lowFirst = {order(20, 39, 1), order(30, 20, 1), order(30, 20, 1)};
        Check.same("the second too high by 1", trial(50, 39, lowFirst), "none");
    }

    /** "The first one that fits is that with the least numbers": row 0 for both. */
    private static void aRowComesBeforeTwo() {
        Check.same("room for a row and for two", trial(60, 40, order(30, 20, 1), order(30, 20, 1)),
                "0:0,0,30,20 1:30,0,30,20");
        Check.same("room for two rows alone", trial(59, 40, order(30, 20, 1), order(30, 20, 1)),
                "0:0,0,30,20 1:0,20,30,20");
    }

    /** "its column, its row in that column ..., and 1 for turned": turned in row 0 is less than row 1. */
    private static void turnedInTheRowComesBeforeTheNextRow() {
        int[][] orders = {turning(50, 20, 1), turning(50, 20, 1)};
        Check.same("room for the second turned beside", trial(70, 50, orders), "0:0,0,50,20 1:50,0,20,50");
        Check.same("too narrow for it by 1", trial(69, 50, orders), "0:0,0,50,20 1:0,20,50,20");
        Check.same("too low for it by 1", trial(70, 49, orders), "0:0,0,50,20 1:0,20,50,20");
    }

    /** "and 1 for turned, 0 otherwise": in each place that a pane can have, 0 before 1. */
    private static void asItIsComesBeforeTurnedInARow() {
        Check.same("the first, both ways", trial(40, 40, turning(30, 20, 1)), "0:0,0,30,20");
        Check.same("the second, both ways", trial(50, 40, order(20, 40, 1), turning(30, 20, 1)),
                "0:0,0,20,40 1:20,0,30,20");
        Check.same("the second, turned alone", trial(49, 40, order(20, 40, 1), turning(30, 20, 1)),
                "0:0,0,20,40 1:20,0,20,30");
    }

    private static void asItIsComesBeforeTurnedInTheNextRow() {
        Check.same("both ways", trial(50, 60, order(50, 20, 1), turning(40, 30, 1)), "0:0,0,50,20 1:0,20,40,30");
        Check.same("turned alone", trial(50, 80, order(50, 20, 1), turning(60, 30, 1)), "0:0,0,50,20 1:0,20,30,60");
    }

    private static void asItIsComesBeforeTurnedInAThirdRow() {
        Check.same("both ways", trial(50, 80, order(50, 20, 1), order(50, 20, 1), turning(40, 30, 1)),
                "0:0,0,50,20 1:0,20,50,20 2:0,40,40,30");
        Check.same("turned alone", trial(50, 100, order(50, 20, 1), order(50, 20, 1), turning(60, 30, 1)),
                "0:0,0,50,20 1:0,20,50,20 2:0,40,30,60");
    }

    private static void asItIsComesBeforeTurnedInAColumn() {
        Check.same("the third, both ways", trial(105, 59, order(60, 20, 1), order(60, 20, 1), turning(40, 45, 1)),
                "0:0,0,60,20 1:0,20,60,20 2:60,0,40,45");
        Check.same("the third, turned alone", trial(105, 64, order(60, 20, 1), order(60, 20, 1), turning(60, 45, 1)),
                "0:0,0,60,20 1:0,20,60,20 2:60,0,45,60");
        Check.same("the second, both ways", trial(70, 40, order(30, 20, 1), turning(35, 40, 1), order(30, 20, 1)),
                "0:0,0,30,20 2:0,20,30,20 1:30,0,35,40");
        Check.same("the second, turned alone", trial(50, 40, order(30, 20, 1), turning(40, 20, 1), order(30, 20, 1)),
                "0:0,0,30,20 2:0,20,30,20 1:30,0,20,40");
    }

    private static void asItIsComesBeforeTurnedInARowOfAColumn() {
        Check.same("both ways", trial(55, 80, order(20, 80, 1), order(30, 20, 1), turning(30, 25, 1)),
                "0:0,0,20,80 1:20,0,30,20 2:20,20,30,25");
        Check.same("turned alone", trial(50, 80, order(20, 80, 1), order(30, 20, 1), turning(36, 30, 1)),
                "0:0,0,20,80 1:20,0,30,20 2:20,20,30,36");
    }

    /** "its column before its row": row 1 of column 0 is less than row 0 of column 1. */
    private static void rowsOfAColumnComeBeforeTheNextColumn() {
        int[][] both = {order(30, 10, 1), order(20, 40, 1), order(30, 20, 1)};
        Check.same("room for the second on top and beside", trial(50, 50, both),
                "0:0,0,30,10 1:0,10,20,40 2:20,10,30,20");
        Check.same("room for the second beside alone", trial(50, 49, both),
                "0:0,0,30,10 2:0,10,30,20 1:30,0,20,40");
        int[][] third = {order(60, 20, 1), order(60, 20, 1), order(20, 40, 1)};
        Check.same("room for the third in row 0", trial(80, 60, third), "0:0,0,60,20 2:60,0,20,40 1:0,40,60,20");
        Check.same("room for the third in column 1", trial(80, 59, third), "0:0,0,60,20 1:0,20,60,20 2:60,0,20,40");
    }

    /** "those of the first pane first". */
    private static void theFirstPaneWeighsMost() {
        int[][] either = {turning(50, 20, 1), turning(50, 20, 1)};
        Check.same("the second turns", trial(70, 50, either), "0:0,0,50,20 1:50,0,20,50");
        int[][] firstOnly = {turning(50, 20, 1), order(50, 20, 1)};
        Check.same("the first does not turn when it need not", trial(70, 50, firstOnly),
                "0:0,0,50,20 1:0,20,50,20");
        Check.same("the first turns when it must", trial(60, 60, turning(40, 30, 1), order(30, 60, 1)),
                "0:0,0,30,40 1:30,0,30,60");
    }

    private static void theSecondPaneWeighsMoreThanTheThird() {
        int[][] orders = {order(10, 50, 1), turning(50, 20, 1), turning(50, 20, 1)};
        Check.same("the third turns, not the second", trial(80, 50, orders),
                "0:0,0,10,50 1:10,0,50,20 2:60,0,20,50");
        Check.same("the second turns into the row before it opens another", trial(50, 70, orders),
                "0:0,0,10,50 1:10,0,20,50 2:30,0,20,50");
    }

    /** "at most one more than those of the panes named before": less is fine too. */
    private static void aPaneGoesBackToAnEarlierRow() {
        Check.same("the third beside the first", trial(60, 40, order(30, 20, 1), order(60, 20, 1), order(30, 20, 1)),
                "0:0,0,30,20 2:30,0,30,20 1:0,20,60,20");
        Check.same("the third beside the second", trial(60, 40, order(60, 20, 1), order(30, 20, 1), order(30, 20, 1)),
                "0:0,0,60,20 1:0,20,30,20 2:30,20,30,20");
    }

    private static void aPaneGoesBackToAnEarlierColumn() {
        Check.same("the third on top of the first", trial(50, 40, order(30, 20, 1), order(20, 40, 1), order(30, 20, 1)),
                "0:0,0,30,20 2:0,20,30,20 1:30,0,20,40");
    }

    private static void aColumnHasTwoRows() {
        int[][] orders = {order(20, 40, 1), order(30, 20, 1), order(30, 20, 1)};
        Check.same("the third on top of the second", trial(50, 40, orders), "0:0,0,20,40 1:20,0,30,20 2:20,20,30,20");
    }

    /** "panes of a row stand in the order of naming"; "orders a, b and c, in this order". */
    private static void panesOfARowStandInTheOrderOfNaming() {
        Hall hall = Scenes.sheetOf(60, 20, new int[][] {order(10, 20, 1), order(20, 20, 1), order(30, 20, 1)});
        hall.exact(0, 2, 0, 1);
        Trees.areAs("tree in the order of naming", hall, 0,
                "X 0 0 60 20 30 1 2 1",
                "P 0 0 30 20 2 -1 -1 0",
                "X 30 0 30 20 10 3 4 0",
                "P 30 0 10 20 0 -1 -1 0",
                "P 40 0 20 20 1 -1 -1 0");
    }

    private static void panesThatMayNotAreNotTurned() {
        Check.same("the first may not", trial(20, 30, order(30, 20, 1)), "none");
        Check.same("the second may not", trial(70, 39, order(50, 20, 1), order(39, 20, 1)), "none");
        Check.same("the second may", trial(70, 39, order(50, 20, 1), turning(39, 20, 1)), "0:0,0,50,20 1:50,0,20,39");
    }

    private static void squaresThatMayBeTurnedAreTaken() {
        Check.same("squares that may be turned", trial(20, 40, turning(20, 20, 1), turning(20, 20, 1)),
                "0:0,0,20,20 1:0,20,20,20");
    }

    /** "0, and nothing changes, when none fits". */
    private static void noneFitsAndNothingChanges() {
        Check.leavesAll("exact of three too wide by 1", h -> {
            h.sheet(89, 20);
            h.order(30, 20, false, 3);
        }, h -> h.exact(0, 0, 0, 0), 0);
        Check.leavesAll("exact of two too high by 1", h -> {
            h.sheet(30, 39);
            h.order(30, 20, true, 3);
        }, h -> h.exact(0, 0, NONE, 0), 0);
        Check.leavesAll("exact of one too wide by 1", h -> {
            h.sheet(29, 29);
            h.order(30, 20, true, 3);
        }, h -> h.exact(0, 0, NONE, NONE), 0);
        Hall hall = Scenes.sheetOf(89, 20, new int[][] {order(30, 20, 3)});
        hall.exact(0, 0, 0, 0);
        Check.same("two of three that did not fit", panes(hall, hall.exact(0, 0, 0, NONE)),
                "0:0,0,30,20 0:30,0,30,20");
    }

    private static Check.Scene openPanes(int first, int second) {
        return h -> {
            h.sheet(60, 20);
            h.order(10, 10, false, first);
            h.order(10, 10, false, second);
        };
    }

    /** "or an order has not as many open panes": as many as it is named. */
    private static void asManyOpenPanesAsAreNamed() {
        Check.same("a and b", Check.hallOf(openPanes(2, 1)).exact(0, 0, 0, NONE), 2);
        Check.refused("a and b too often by 1", openPanes(1, 6), Check.STATE, h -> h.exact(0, 0, 0, NONE));
        Check.same("a and c", Check.hallOf(openPanes(2, 1)).exact(0, 0, 1, 0), 3);
        Check.refused("a and c too often by 1", openPanes(1, 6), Check.STATE, h -> h.exact(0, 0, 1, 0));
        Check.refused("a and c too often by 1, without b", openPanes(1, 6), Check.STATE, h -> h.exact(0, 0, NONE, 0));
        Check.same("b and c", Check.hallOf(openPanes(2, 1)).exact(0, 1, 0, 0), 3);
        Check.refused("b and c too often by 1", openPanes(1, 6), Check.STATE, h -> h.exact(0, 1, 0, 0));
        Check.same("a, b and c", Check.hallOf(openPanes(3, 1)).exact(0, 0, 0, 0), 3);
        Check.refused("a, b and c too often by 1", openPanes(2, 6), Check.STATE, h -> h.exact(0, 0, 0, 0));
        Check.refused("a, b and c too often by 2", openPanes(1, 6), Check.STATE, h -> h.exact(0, 0, 0, 0));
    }

    private static void plannedAndDonePanesAreNotOpen() {
        Check.refused("a pane that is planned", h -> {
            openPanes(1, 1).set(h);
            h.exact(0, 0, NONE, NONE);
            h.sheet(60, 20);
        }, Check.STATE, h -> h.exact(1, 0, NONE, NONE));
        Check.refused("a pane that is done", h -> {
            h.order(10, 10, false, 1);
            h.sheet(10, 10);
            h.plan(0);
            h.score(0);
            h.sheet(10, 10);
        }, Check.STATE, h -> h.exact(1, 0, NONE, NONE));
        Hall hall = Check.hallOf(openPanes(2, 1));
        hall.exact(0, 0, NONE, NONE);
        hall.sheet(60, 20);
        Check.same("the last open pane", hall.exact(1, 0, NONE, NONE), 1);
    }

    /** "NoSuchElement (also for an order)". */
    private static void noSuchSheetIsToldFirst() {
        Check.noSuchSheet("exact", (h, id) -> h.exact(id, 0, NONE, NONE));
        Check.noSuchSheet("exact with no such order", (h, id) -> h.exact(id, 9, 9, 9));
    }

    private static void noSuchOrderIsRefused() {
        for (int order : new int[] {-2, 2, 6, Check.MIN, Check.MAX}) {
            Check.refused("a = " + order, openPanes(3, 3), Check.ELEMENT, h -> h.exact(0, order, NONE, NONE));
            Check.refused("b = " + order, openPanes(3, 3), Check.ELEMENT, h -> h.exact(0, 0, order, NONE));
            Check.refused("c = " + order, openPanes(3, 3), Check.ELEMENT, h -> h.exact(0, 0, 1, order));
            Check.refused("c = " + order + " without b", openPanes(3, 3), Check.ELEMENT,
                    h -> h.exact(0, 0, NONE, order));
        }
        Check.refused("NONE for a", openPanes(3, 3), Check.ELEMENT, h -> h.exact(0, NONE, 0, 1));
        Check.refused("NONE for all", openPanes(3, 3), Check.ELEMENT, h -> h.exact(0, NONE, NONE, NONE));
        Check.same("the last order", Check.hallOf(openPanes(3, 3)).exact(0, 1, 1, 1), 3);
    }

    /** "the first that is so": no order, before a sheet that is planned or has flaws, or panes that are not open. */
    private static void noSuchOrderIsToldBeforeTheState() {
        Check.refused("no order, and planned", Scenes::planned, Check.ELEMENT, h -> h.exact(0, 0, 1, NONE));
        Check.refused("no order, and a flaw", h -> {
            openPanes(3, 3).set(h);
            h.flaw(0, 59, 19, 1, 1);
        }, Check.ELEMENT, h -> h.exact(0, 0, NONE, 2));
        Check.refused("no order, and one too often", openPanes(1, 1), Check.ELEMENT, h -> h.exact(0, 0, 0, 2));
    }

    /** "IllegalState: it is planned". */
    private static void plannedSheetsAreRefused() {
        Check.refused("exact of a sheet planned by trying", h -> {
            openPanes(3, 3).set(h);
            h.exact(0, 0, NONE, NONE);
        }, Check.STATE, h -> h.exact(0, 0, NONE, NONE));
        Check.refused("exact of a sheet planned by strips", h -> {
            Scenes.planned(h);
            h.order(1, 1, false, 1);
        }, Check.STATE, h -> h.exact(0, 1, NONE, NONE));
        Check.refused("exact of a sheet that is cut", h -> {
            Scenes.scoredOnce(h);
            h.order(1, 1, false, 1);
        }, Check.STATE, h -> h.exact(0, 1, NONE, NONE));
    }

    /** "it has flaws": one is enough, wherever it lies. */
    private static void sheetsWithFlawsAreRefused() {
        Check.refused("exact of a sheet with a flaw", h -> {
            openPanes(3, 3).set(h);
            h.flaw(0, 59, 19, 1, 1);
        }, Check.STATE, h -> h.exact(0, 0, NONE, NONE));
        Check.refused("exact of a flawed sheet where none would fit", h -> {
            h.sheet(5, 5);
            h.order(10, 10, false, 1);
            h.flaw(0, 4, 4, 1, 1);
        }, Check.STATE, h -> h.exact(0, 0, NONE, NONE));
    }

    /** "a call that throws changes nothing": what comes next is as it would be without it. */
    private static void refusedNamesAreForgotten() {
        Hall hall = Check.hallOf(openPanes(1, 2));
        Check.outcome(hall, h -> h.exact(0, 1, 1, 0));
        hall.cancel(0);
        Check.same("three too often", Check.outcome(hall, h -> h.exact(0, 1, 1, 1)), "throws IllegalStateException");
        Check.same("one of them", panes(hall, hall.exact(0, 0, NONE, NONE)), "0:0,0,10,10");
        hall.cancel(0);
        Check.same("no such order", Check.outcome(hall, h -> h.exact(0, 1, 1, 2)), "throws NoSuchElementException");
        Check.same("strips", panes(hall, hall.plan(0)), "0:0,0,10,10 1:0,10,10,10 1:10,0,10,10");
    }
}
