/** Promise 5, plan, and what the terms say of strips and of meeting a flaw. */
public final class PlanTest {
    public static void main(String[] args) {
        ordersComeByFallingHeight();
        ordersOfTheSameHeightComeByFallingWidth();
        ordersOfTheSameSizeComeByNumbers();
        heightsAreThoseOfPanesThatAreNotTurned();
        panesComeAsTheyAreBeforeTheyAreTurned();
        turnedPanesComeBeforeTheNextOrder();
        panesThatMayNotAreNotTurned();
        squaresThatMayBeTurnedAreTaken();
        eachSpotBeginsWithTheFirstOrder();
        panesAreNoWiderThanTheSheet();
        panesAreNoHigherThanTheSheet();
        otherColumnsHaveRoomUpToTheRightEdge();
        otherSpotsAreAsWideAsTheColumn();
        otherSpotsHaveRoomUpToTheUpperEdge();
        aColumnEndsWhereNoPaneIsTaken();
        noColumnComesAfterOneWithoutAPane();
        flawsAtTheRightEdgeAreNotMet();
        flawsAtTheUpperEdgeAreNotMet();
        flawsAtTheLeftEdgeAreNotMet();
        flawsAtTheLowerEdgeAreNotMet();
        flawsAtACornerAreNotMet();
        flawsInsideAndAroundAreMet();
        everyFlawCounts();
        onlyOpenPanesAreTaken();
        noneAndNothingChanges();
        aSheetThatHadNoneIsPlannedLater();
        columnsAndRowsAreAtLeast1();
        thirtySixPanes();
        thirtySixPanesFillTheLargestSheet();
        plannedSheetsAreRefused();
        noSuchSheetIsRefused();
        Check.end();
    }

    private static int[] order(int w, int h, int n) {
        return new int[] {w, h, 0, n};
    }

    private static int[] turning(int w, int h, int n) {
        return new int[] {w, h, 1, n};
    }

    private static int[] flaw(int x, int y, int w, int h) {
        return new int[] {x, y, w, h};
    }

    /** Plans a sheet and tells the panes that are in it, each as order:x,y,w,h. */
    private static String strips(int w, int h, int[][] orders, int[]... flaws) {
        Hall hall = Scenes.sheetOf(w, h, orders, flaws);
        int answer = hall.plan(0);
        if (answer == 0) {
            return "none";
        }
        String panes = Trees.panes(hall, 0);
        Check.same("how many panes of " + panes, answer, panes.split(" ").length);
        return panes;
    }

    /** "orders with open panes come by falling height". */
    private static void ordersComeByFallingHeight() {
        Check.same("heights of 20, 21 and 19",
                strips(30, 21, new int[][] {order(10, 20, 1), order(10, 21, 1), order(10, 19, 1)}),
                "1:0,0,10,21 0:10,0,10,20 2:20,0,10,19");
        Check.same("six heights in no order",
                strips(60, 60, new int[][] {
                    order(10, 53, 1), order(10, 55, 1), order(10, 51, 1), order(10, 54, 1), order(10, 52, 1),
                    order(10, 56, 1),
                }), "5:0,0,10,56 1:10,0,10,55 3:20,0,10,54 0:30,0,10,53 4:40,0,10,52 2:50,0,10,51");
        Check.same("a high narrow one and a low wide one",
                strips(100, 50, new int[][] {order(90, 10, 1), order(5, 11, 1)}),
                "1:0,0,5,11 0:5,0,90,10");
    }

    /** "of the same by falling width". */
    private static void ordersOfTheSameHeightComeByFallingWidth() {
        Check.same("widths of 30, 31 and 29",
                strips(90, 20, new int[][] {order(30, 20, 1), order(31, 20, 1), order(29, 20, 1)}),
                "1:0,0,31,20 0:31,0,30,20 2:61,0,29,20");
        Check.same("widths that are less than the height",
                strips(90, 40, new int[][] {order(29, 40, 1), order(31, 40, 1), order(30, 40, 1)}),
                "1:0,0,31,40 2:31,0,30,40 0:61,0,29,40");
    }

    /** "of the same by numbers". */
    private static void ordersOfTheSameSizeComeByNumbers() {
        int[][] orders = new int[6][];
        for (int i = 0; i < 6; i++) {
            orders[i] = order(10, 10, 1);
        }
        Check.same("six orders alike", strips(60, 10, orders),
                "0:0,0,10,10 1:10,0,10,10 2:20,0,10,10 3:30,0,10,10 4:40,0,10,10 5:50,0,10,10");
        orders[2] = order(10, 10, 3);
        Check.same("all panes of one before the next", strips(60, 10, orders),
                "0:0,0,10,10 1:10,0,10,10 2:20,0,10,10 2:30,0,10,10 2:40,0,10,10 3:50,0,10,10");
    }

    private static void heightsAreThoseOfPanesThatAreNotTurned() {
        Check.same("a low order that may be turned",
                strips(70, 50, new int[][] {turning(50, 10, 1), order(20, 30, 1)}),
                "1:0,0,20,30 0:20,0,50,10");
    }

    /** "each as it is, and then turned, if it may be". */
    private static void panesComeAsTheyAreBeforeTheyAreTurned() {
        Check.same("room for both ways", strips(20, 20, new int[][] {turning(20, 10, 1)}), "0:0,0,20,10");
        Check.same("room as it is alone", strips(20, 10, new int[][] {turning(20, 10, 1)}), "0:0,0,20,10");
        Check.same("room when turned alone", strips(10, 20, new int[][] {turning(20, 10, 1)}), "0:0,0,10,20");
        Check.same("both ways in one plan", strips(30, 20, new int[][] {turning(20, 10, 3)}),
                "0:0,0,20,10 0:0,10,20,10 0:20,0,10,20");
    }

    private static void turnedPanesComeBeforeTheNextOrder() {
        Check.same("room for one of two",
                strips(45, 36, new int[][] {order(35, 35, 1), turning(30, 40, 1)}), "1:0,0,40,30");
    }

    private static void panesThatMayNotAreNotTurned() {
        Check.same("room when turned alone", strips(10, 20, new int[][] {order(20, 10, 1)}), "none");
    }

    private static void squaresThatMayBeTurnedAreTaken() {
        Check.same("a square", strips(20, 40, new int[][] {turning(20, 20, 3)}), "0:0,0,20,20 0:0,20,20,20");
    }

    /** "At a spot the first pane is taken": also when a later order was taken below. */
    private static void eachSpotBeginsWithTheFirstOrder() {
        Check.same("a flaw that only the small one does not meet",
                strips(40, 100, new int[][] {order(30, 10, 1), order(40, 40, 1), order(40, 50, 1)},
                        flaw(35, 50, 5, 5)),
                "2:0,0,40,50 0:0,50,30,10 1:0,60,40,40");
    }

    /** "no wider ... than the room there": a column's first spot, "its room up to the right and upper edges". */
    private static void panesAreNoWiderThanTheSheet() {
        int[][] asItIs = {order(100, 50, 1)};
        Check.same("just as wide", strips(100, 60, asItIs), "0:0,0,100,50");
        Check.same("too wide by 1", strips(99, 60, asItIs), "none");
        int[][] turned = {turning(70, 100, 1)};
        Check.same("just as wide when turned", strips(100, 99, turned), "0:0,0,100,70");
        Check.same("too wide by 1 when turned", strips(99, 99, turned), "none");
    }

    /** "and no higher than the room there". */
    private static void panesAreNoHigherThanTheSheet() {
        int[][] asItIs = {order(50, 100, 1)};
        Check.same("just as high", strips(60, 100, asItIs), "0:0,0,50,100");
        Check.same("too high by 1", strips(60, 99, asItIs), "none");
        int[][] turned = {turning(100, 70, 1)};
        Check.same("just as high when turned", strips(99, 100, turned), "0:0,0,70,100");
        Check.same("too high by 1 when turned", strips(99, 99, turned), "none");
    }

    /** "The first column begins at x = 0, each other one where the one before ends". */
    private static void otherColumnsHaveRoomUpToTheRightEdge() {
        int[][] two = {order(60, 50, 1), order(40, 50, 1)};
        Check.same("just as wide as what is left", strips(100, 50, two), "0:0,0,60,50 1:60,0,40,50");
        Check.same("wider by 1 than what is left", strips(99, 50, two), "0:0,0,60,50");
        int[][] three = {order(60, 50, 1), order(30, 50, 1), order(10, 50, 1)};
        Check.same("a third just as wide", strips(100, 50, three), "0:0,0,60,50 1:60,0,30,50 2:90,0,10,50");
        Check.same("a third wider by 1", strips(99, 50, three), "0:0,0,60,50 1:60,0,30,50");
    }

    /** "it is as wide as the pane that is taken; its other spots are on top ..., the room as wide as the column". */
    private static void otherSpotsAreAsWideAsTheColumn() {
        Check.same("just as wide as the column",
                strips(130, 80, new int[][] {order(60, 50, 1), order(60, 30, 1)}), "0:0,0,60,50 1:0,50,60,30");
        Check.same("wider by 1 than the column",
                strips(130, 80, new int[][] {order(60, 50, 1), order(61, 30, 1)}), "0:0,0,60,50 1:60,0,61,30");
        Check.same("narrower by 1, and one on top as wide as the column",
                strips(60, 100, new int[][] {order(60, 50, 1), order(59, 30, 1), order(60, 20, 1)}),
                "0:0,0,60,50 1:0,50,59,30 2:0,80,60,20");
    }

    private static void otherSpotsHaveRoomUpToTheUpperEdge() {
        int[][] two = {order(60, 50, 1), order(60, 30, 1)};
        Check.same("just as high as what is left", strips(60, 80, two), "0:0,0,60,50 1:0,50,60,30");
        Check.same("higher by 1 than what is left", strips(60, 79, two), "0:0,0,60,50");
        int[][] three = {order(60, 50, 1), order(60, 20, 1), order(60, 10, 1)};
        Check.same("a third just as high", strips(60, 80, three), "0:0,0,60,50 1:0,50,60,20 2:0,70,60,10");
        Check.same("a third higher by 1", strips(60, 79, three), "0:0,0,60,50 1:0,50,60,20");
    }

    /** "A column ends when no pane is taken": though there is room above a flaw. */
    private static void aColumnEndsWhereNoPaneIsTaken() {
        Check.same("a flaw above the first pane",
                strips(80, 100, new int[][] {order(40, 40, 3)}, flaw(0, 45, 1, 1)),
                "0:0,0,40,40 0:40,0,40,40 0:40,40,40,40");
    }

    /** "there are no more when that is at y = 0": though there is room above and at the right. */
    private static void noColumnComesAfterOneWithoutAPane() {
        int[][] orders = {order(40, 40, 6)};
        Check.same("a flaw in the first spot", strips(200, 100, orders, flaw(0, 0, 1, 1)), "none");
        Check.same("a flaw in the second column", strips(200, 40, orders, flaw(79, 0, 1, 1)), "0:0,0,40,40");
        Check.same("a flaw beyond the second column", strips(200, 40, orders, flaw(80, 0, 1, 1)),
                "0:0,0,40,40 0:40,0,40,40");
    }

    /** "A rectangle MEETS a flaw when they have more than edges in common": the right edge of a pane. */
    private static void flawsAtTheRightEdgeAreNotMet() {
        int[][] four = {order(40, 40, 4)};
        Check.same("a flaw at the right edge", strips(80, 80, four, flaw(40, 0, 1, 40)), "0:0,0,40,40 0:0,40,40,40");
        Check.same("a flaw 1 over the right edge", strips(80, 80, four, flaw(39, 0, 1, 40)), "none");
    }

    private static void flawsAtTheUpperEdgeAreNotMet() {
        int[][] four = {order(40, 40, 4)};
        Check.same("a flaw at the upper edge", strips(80, 80, four, flaw(0, 40, 40, 1)),
                "0:0,0,40,40 0:40,0,40,40 0:40,40,40,40");
        Check.same("a flaw 1 over the upper edge", strips(80, 80, four, flaw(0, 39, 40, 1)), "none");
    }

    private static void flawsAtTheLeftEdgeAreNotMet() {
        int[][] four = {order(40, 40, 4)};
        Check.same("a flaw at the left edge", strips(80, 80, four, flaw(39, 40, 1, 40)),
                "0:0,0,40,40 0:40,0,40,40 0:40,40,40,40");
        Check.same("a flaw 1 over the left edge", strips(80, 80, four, flaw(39, 40, 2, 40)),
                "0:0,0,40,40 0:40,0,40,40");
    }

    private static void flawsAtTheLowerEdgeAreNotMet() {
        int[][] orders = {order(40, 40, 1), order(20, 10, 1), order(40, 8, 1)};
        Check.same("a flaw at the lower edge", strips(40, 60, orders, flaw(30, 45, 5, 5)),
                "0:0,0,40,40 1:0,40,20,10 2:0,50,40,8");
        Check.same("a flaw 1 over the lower edge", strips(40, 60, orders, flaw(30, 45, 5, 6)),
                "0:0,0,40,40 1:0,40,20,10");
    }

    private static void flawsAtACornerAreNotMet() {
        int[][] four = {order(40, 40, 4)};
        Check.same("a flaw at the upper right corner", strips(80, 80, four, flaw(40, 40, 1, 1)),
                "0:0,0,40,40 0:0,40,40,40 0:40,0,40,40");
        Check.same("a flaw in the upper right corner", strips(80, 80, four, flaw(39, 39, 1, 1)), "none");
        Check.same("a flaw at the right of all", strips(81, 80, four, flaw(80, 0, 1, 80)),
                "0:0,0,40,40 0:0,40,40,40 0:40,0,40,40 0:40,40,40,40");
    }

    private static void flawsInsideAndAroundAreMet() {
        int[][] four = {order(40, 40, 4)};
        Check.same("a flaw inside the pane", strips(80, 80, four, flaw(20, 20, 1, 1)), "none");
        Check.same("a flaw around the pane", strips(80, 80, four, flaw(0, 0, 80, 80)), "none");
        Check.same("a flaw as large as the pane", strips(80, 80, four, flaw(0, 0, 40, 40)), "none");
        Check.same("a flaw from left to right", strips(80, 80, four, flaw(0, 20, 80, 1)), "none");
        Check.same("a flaw from below to above", strips(80, 80, four, flaw(20, 0, 1, 80)), "none");
    }

    private static void everyFlawCounts() {
        for (int bad = 0; bad < 6; bad++) {
            int[][] flaws = new int[6][];
            for (int k = 0; k < 6; k++) {
                flaws[k] = k == bad ? flaw(0, 0, 1, 1) : flaw(79, 79, 1, 1);
            }
            Check.same("flaw " + bad + " of six", strips(80, 80, new int[][] {order(40, 40, 1)}, flaws), "none");
        }
    }

    /** "orders with open panes": planned and done ones are not, and each is taken once. */
    private static void onlyOpenPanesAreTaken() {
        Hall hall = Scenes.sheetOf(20, 10, new int[][] {order(10, 10, 3)});
        hall.sheet(20, 10);
        Check.same("two of three", hall.plan(0), 2);
        Check.same("the third", hall.plan(1), 1);
        hall.score(0);
        hall.sheet(20, 10);
        Check.same("planned and done ones", hall.plan(2), 0);
        hall.cancel(1);
        Check.same("the third again", hall.plan(2), 1);
        Check.same("panes", Story.panes(hall, 0), "0 1 2");
    }

    /** "0, and nothing changes, when there would be none". */
    private static void noneAndNothingChanges() {
        Check.leavesAll("plan without orders", h -> h.sheet(10, 10), h -> h.plan(0), 0);
        Check.leavesAll("plan of a pane too wide by 1", h -> {
            h.sheet(10, 10);
            h.order(11, 10, false, 1);
        }, h -> h.plan(0), 0);
        Check.leavesAll("plan of a pane too high by 1", h -> {
            h.sheet(10, 10);
            h.order(10, 11, true, 1);
        }, h -> h.plan(0), 0);
        Check.leavesAll("plan of a sheet with a flaw in its corner", h -> {
            h.sheet(10, 10);
            h.order(1, 1, false, 6);
            h.flaw(0, 0, 0, 1, 1);
        }, h -> h.plan(0), 0);
        Check.leavesAll("plan when all panes are planned", h -> {
            Scenes.planned(h);
            h.sheet(60, 100);
        }, h -> h.plan(1), 0);
        Check.leavesAll("plan when all panes are done", h -> {
            h.order(10, 10, false, 1);
            h.sheet(10, 10);
            h.plan(0);
            h.score(0);
            h.sheet(10, 10);
        }, h -> h.plan(1), 0);
    }

    private static void aSheetThatHadNoneIsPlannedLater() {
        Hall hall = Check.hallOf(h -> h.sheet(10, 10));
        Check.same("plan without orders", hall.plan(0), 0);
        Check.same("flaw of a sheet that had none", hall.flaw(0, 9, 9, 1, 1), 1);
        hall.order(9, 9, false, 1);
        Check.same("plan with an order", hall.plan(0), 1);
    }

    /** The smallest panes there are: columns of 1 wide, rows of 1 high, and what remains of 1. */
    private static void columnsAndRowsAreAtLeast1() {
        int[][] orders = {order(1, 1, 5)};
        Check.same("three columns", strips(3, 1, orders), "0:0,0,1,1 0:1,0,1,1 0:2,0,1,1");
        Check.same("three rows", strips(1, 3, orders), "0:0,0,1,1 0:0,1,1,1 0:0,2,1,1");
        Check.same("two columns of two rows, and one more", strips(3, 2, orders),
                "0:0,0,1,1 0:0,1,1,1 0:1,0,1,1 0:1,1,1,1 0:2,0,1,1");
        Check.same("round a flaw of 1", strips(2, 2, orders, flaw(0, 1, 1, 1)),
                "0:0,0,1,1 0:1,0,1,1 0:1,1,1,1");
    }

    /** Six orders of six: no more are ever open. */
    private static void thirtySixPanes() {
        int[][] orders = new int[6][];
        orders[0] = order(20, 50, 6);
        for (int i = 1; i < 6; i++) {
            orders[i] = order(10, 9, 6);
        }
        Hall hall = Scenes.sheetOf(121, 99, orders);
        Check.same("all panes", hall.plan(0), 36);
        Check.same("nodes of all panes", hall.nodes(0), 145);
        Check.same("width of the last rest", hall.node(0, 144, 3), 1);
        for (int i = 0; i < 72; i++) {
            hall.score(0);
        }
        Check.same("sheets after all cuts", hall.total(0), 0);
        Check.same("done panes", hall.area(1), 6 * 1000 + 30 * 90);
        Check.same("waste", hall.area(3), 121 * 99 - 6 * 1000 - 30 * 90);
    }

    private static void thirtySixPanesFillTheLargestSheet() {
        int[][] orders = new int[6][];
        for (int i = 0; i < 6; i++) {
            orders[i] = turning(1000, 1000, 6);
        }
        Hall hall = Scenes.sheetOf(6000, 6000, orders);
        Check.same("all panes", hall.plan(0), 36);
        Check.same("nodes without a rest", hall.nodes(0), 71);
        for (int i = 0; i < 35; i++) {
            hall.score(0);
        }
        Check.same("sheets after all cuts", hall.total(0), 0);
        Check.same("done panes", hall.area(1), 36_000_000);
        Check.same("waste", hall.area(3), 0);
        Check.same("the largest sheet is too narrow by 1", Scenes.sheetOf(5999, 6000, orders).plan(0), 30);
        Check.same("the largest sheet is too low by 1", Scenes.sheetOf(6000, 5999, orders).plan(0), 30);
    }

    /** "IllegalState: it is planned". */
    private static void plannedSheetsAreRefused() {
        Check.refused("plan of a sheet planned by strips", h -> {
            Scenes.planned(h);
            h.order(1, 1, false, 6);
        }, Check.STATE, h -> h.plan(0));
        Check.refused("plan of a sheet planned by trying", h -> {
            h.order(10, 10, false, 3);
            h.sheet(30, 10);
            h.exact(0, 0, Hall.NONE, Hall.NONE);
        }, Check.STATE, h -> h.plan(0));
        Check.refused("plan of a sheet that is cut", h -> {
            Scenes.scoredOnce(h);
            h.order(1, 1, false, 6);
        }, Check.STATE, h -> h.plan(0));
        Check.refused("plan of a planned sheet when no pane is open", Scenes::planned, Check.STATE, h -> h.plan(0));
    }

    private static void noSuchSheetIsRefused() {
        Check.noSuchSheet("plan", Hall::plan);
    }
}
