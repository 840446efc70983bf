/** What the terms say of offcuts: which rests are offcuts, their flaws, and their numbers. */
public final class OffcutTest {
    private static final int NONE = Hall.NONE;

    public static void main(String[] args) {
        offcutsAreAtLeast300Wide();
        offcutsAreAtLeast300High();
        restsAboveAreOffcuts();
        restsBesideAPaneAreOffcuts();
        restsOfACellAreOffcuts();
        theTenthIsKeptTheEleventhIsWaste();
        aUsedOffcutMakesRoomForOne();
        aSheetWithTwoFillsTheRack();
        numbersAreInTheOrderOfComing();
        flawsAtTheLeftEdgeAreNotMet();
        flawsAtTheRightEdgeAreNotMet();
        flawsAtTheLowerAndUpperEdgesAreNotMet();
        flawsAreToldAsFarAsTheyLieInIt();
        flawsStayInTheirOrder();
        offcutsOfOffcutsHaveTheirFlaws();
        Check.end();
    }

    private static void kept(int w, int h) {
        Hall hall = Check.hallOf(a -> Scenes.offcuts(a, new int[][] {{w, h}}));
        Check.same("offcuts of " + w + " x " + h, hall.total(3), 1);
        Check.same("the offcut", Story.offcut(hall, 0), w + " " + h + " 0");
        Check.same("area of offcuts", hall.area(2), (long) w * h);
        Check.same("waste", hall.area(3), 0);
    }

    private static void wasted(int w, int h) {
        Hall hall = Check.hallOf(a -> Scenes.offcuts(a, new int[][] {{w, h}}));
        Check.same("offcuts of " + w + " x " + h, hall.total(3), 0);
        Check.same("area of offcuts", hall.area(2), 0);
        Check.same("waste", hall.area(3), (long) w * h);
    }

    /** "an OFFCUT when it is at least 300 wide and 300 high ..., otherwise waste". */
    private static void offcutsAreAtLeast300Wide() {
        kept(300, 300);
        kept(300, 6000);
        wasted(299, 300);
        wasted(299, 6000);
        wasted(1, 6000);
    }

    private static void offcutsAreAtLeast300High() {
        kept(5999, 300);
        wasted(300, 299);
        wasted(5999, 299);
        wasted(299, 299);
    }

    /** Cuts lengthways a pane of 1 high from a sheet. */
    private static Hall restAbove(int w, int h) {
        Hall hall = new CountedHall();
        hall.order(w, 1, false, 1);
        hall.sheet(w, h + 1);
        hall.plan(0);
        hall.score(0);
        Check.same("sheets", hall.total(0), 0);
        return hall;
    }

    private static void restsAboveAreOffcuts() {
        Check.same("300 x 300", Story.offcut(restAbove(300, 300), 0), "300 300 0");
        Check.same("offcuts of 300 x 299", restAbove(300, 299).total(3), 0);
        Check.same("waste of 300 x 299", restAbove(300, 299).area(3), 300 * 299);
        Check.same("offcuts of 299 x 300", restAbove(299, 300).total(3), 0);
        Check.same("waste of 299 x 300", restAbove(299, 300).area(3), 299 * 300);
    }

    private static void restsBesideAPaneAreOffcuts() {
        Hall hall = new CountedHall();
        hall.order(700, 310, false, 1);
        hall.order(400, 300, false, 1);
        hall.sheet(700, 610);
        hall.plan(0);
        hall.score(0);
        hall.score(0);
        Check.same("the rest of a row", Story.offcut(hall, 0), "300 300 0");
    }

    private static void restsOfACellAreOffcuts() {
        Hall hall = new CountedHall();
        hall.order(300, 100, false, 1);
        hall.order(100, 400, false, 1);
        hall.sheet(400, 400);
        hall.exact(0, 0, 1, NONE);
        hall.score(0);
        hall.score(0);
        Check.same("the rest of a cell", Story.offcut(hall, 0), "300 300 0");
    }

    /** "and fewer than 10 are in the RACK". */
    private static void theTenthIsKeptTheEleventhIsWaste() {
        Hall hall = Check.hallOf(h -> Scenes.offcuts(h, 9));
        Scenes.offcut(hall, 0, 700, 800);
        Check.same("offcuts with the tenth", hall.total(3), 10);
        Check.same("the tenth", Story.offcut(hall, 9), "700 800 0");
        Check.same("waste before the eleventh", hall.area(3), 0);
        long kept = hall.area(2);
        Scenes.offcut(hall, 0, 900, 800);
        Check.same("offcuts with the eleventh", hall.total(3), 10);
        Check.same("the tenth still", Story.offcut(hall, 9), "700 800 0");
        Check.same("waste with the eleventh", hall.area(3), 720_000);
        Check.same("area of offcuts", hall.area(2), kept);
    }

    private static void aUsedOffcutMakesRoomForOne() {
        Hall hall = Check.hallOf(h -> Scenes.offcuts(h, 10));
        hall.use(4);
        Scenes.offcut(hall, 0, 700, 800);
        Check.same("offcuts", hall.total(3), 10);
        for (int k = 0; k < 9; k++) {
            Check.same("offcut " + k, Story.offcut(hall, k), (k < 4 ? 300 + k : 301 + k) + " 300 0");
        }
        Check.same("the new one", Story.offcut(hall, 9), "700 800 0");
        Scenes.offcut(hall, 0, 900, 800);
        Check.same("offcuts after one more", hall.total(3), 10);
        Check.same("waste", hall.area(3), 720_000);
    }

    private static void aSheetWithTwoFillsTheRack() {
        Hall hall = Check.hallOf(h -> Scenes.offcuts(h, 9));
        hall.order(400, 300, false, 1);
        int id = hall.sheet(900, 700);
        hall.exact(id, 1, NONE, NONE);
        hall.score(id);
        Check.same("the tenth", Story.offcut(hall, 9), "500 700 0");
        hall.score(id);
        Check.same("offcuts", hall.total(3), 10);
        Check.same("waste", hall.area(3), 400 * 400);
    }

    /** "The rack's offcuts are numbered from 0 in the order in which they came". */
    private static void numbersAreInTheOrderOfComing() {
        Hall hall = new CountedHall();
        hall.order(400, 100, false, 1);
        hall.order(300, 90, false, 1);
        hall.sheet(900, 500);
        hall.exact(0, 0, NONE, NONE);
        hall.sheet(800, 600);
        hall.exact(1, 1, NONE, NONE);
        hall.score(0);
        hall.score(1);
        hall.score(1);
        hall.score(0);
        Check.same("first", Story.offcut(hall, 0), "500 500 0");
        Check.same("second", Story.offcut(hall, 1), "500 600 0");
        Check.same("third", Story.offcut(hall, 2), "300 510 0");
        Check.same("fourth", Story.offcut(hall, 3), "400 400 0");
        hall.use(1);
        Check.same("first after the second is used", Story.offcut(hall, 0), "500 500 0");
        Check.same("second after it", Story.offcut(hall, 1), "300 510 0");
        Check.same("third after it", Story.offcut(hall, 2), "400 400 0");
    }

    /** One pane of 1 x 1 is cut from a sheet of 701 x 600: the rest, from x = 1 on, is a sheet with the id 1 then. */
    private static Hall restOfFlawed(int[]... flaws) {
        Hall hall = Scenes.sheetOf(701, 600, new int[][] {{1, 1, 0, 1}}, flaws);
        hall.plan(0);
        hall.score(0);
        String told = Story.offcut(hall, 0);
        hall.use(0);
        String flawsOfSheet = Story.flaws(hall, 1);
        Check.same("the offcut", told, "700 600 " + (flawsOfSheet.split("\n").length - 1));
        return hall;
    }

    /** Three cuts, and the two offcuts of these are sheets, 1 and 2. */
    private static Hall cutThreeTimesAndUse(Hall hall) {
        hall.plan(0);
        for (int i = 0; i < 3; i++) {
            hall.score(0);
        }
        hall.use(0);
        hall.use(0);
        return hall;
    }

    private static String flawsOf(Hall hall, int id) {
        return Story.flaws(hall, id).replace("flaw throws IndexOutOfBoundsException\n", "").replace("flaw ", "")
                .replace("\n", "; ");
    }

    /** "An offcut has the flaws of the sheet that it meets": more than edges in common. */
    private static void flawsAtTheLeftEdgeAreNotMet() {
        Check.same("a flaw at the left edge", flawsOf(restOfFlawed(new int[] {0, 100, 1, 10}), 1), "");
        Check.same("a flaw 1 over the left edge", flawsOf(restOfFlawed(new int[] {0, 100, 2, 10}), 1), "0 100 1 10; ");
        Check.same("a flaw that begins at the left edge", flawsOf(restOfFlawed(new int[] {1, 100, 1, 10}), 1),
                "0 100 1 10; ");
    }

    /** The rests above two columns: of 500 x 310 at 0, 390, and of 400 x 310 at 500, 390; their ids are 1 and 2. */
    private static Hall restsOfTwoColumns(int[]... flaws) {
        int[][] orders = {{500, 390, 0, 1}, {400, 390, 0, 1}};
        return cutThreeTimesAndUse(Scenes.sheetOf(900, 700, orders, flaws));
    }

    private static void flawsAtTheRightEdgeAreNotMet() {
        Hall at = restsOfTwoColumns(new int[] {500, 500, 10, 20});
        Check.same("a flaw at the right edge", flawsOf(at, 1), "");
        Check.same("it is in the other offcut", flawsOf(at, 2), "0 110 10 20; ");
        Hall over = restsOfTwoColumns(new int[] {499, 500, 10, 20});
        Check.same("a flaw 1 over the right edge", flawsOf(over, 1), "499 110 1 20; ");
        Check.same("the rest of it", flawsOf(over, 2), "0 110 9 20; ");
        Hall before = restsOfTwoColumns(new int[] {490, 500, 10, 20});
        Check.same("a flaw that ends at the right edge", flawsOf(before, 1), "490 110 10 20; ");
        Check.same("it is not in the other offcut", flawsOf(before, 2), "");
    }

    /** Beside a pane a rest of 350 x 300 at 350, 310; above it one of 700 x 390 at 0, 610. Their ids are 2 and 1. */
    private static Hall restsOfTwoRows(int[]... flaws) {
        int[][] orders = {{700, 310, 0, 1}, {350, 300, 0, 1}};
        return cutThreeTimesAndUse(Scenes.sheetOf(700, 1000, orders, flaws));
    }

    private static void flawsAtTheLowerAndUpperEdgesAreNotMet() {
        Hall below = restsOfTwoRows(new int[] {400, 560, 10, 50});
        Check.same("a flaw at the lower edge", flawsOf(below, 1), "");
        Check.same("it ends at the other's upper edge", flawsOf(below, 2), "50 250 10 50; ");
        Hall above = restsOfTwoRows(new int[] {400, 610, 20, 30});
        Check.same("a flaw at the upper edge", flawsOf(above, 2), "");
        Check.same("it begins at the other's lower edge", flawsOf(above, 1), "400 0 20 30; ");
        Hall over = restsOfTwoRows(new int[] {500, 609, 10, 2});
        Check.same("a flaw 1 over the upper edge", flawsOf(over, 2), "150 299 10 1; ");
        Check.same("a flaw 1 over the lower edge", flawsOf(over, 1), "500 0 10 1; ");
    }

    /** "as far as they lie in it ..., told from its own corner". */
    private static void flawsAreToldAsFarAsTheyLieInIt() {
        Check.same("a flaw of all of it", flawsOf(restOfFlawed(new int[] {1, 0, 700, 600}), 1), "0 0 700 600; ");
        Check.same("a flaw from edge to edge", flawsOf(restOfFlawed(new int[] {0, 1, 701, 599}), 1), "0 1 700 599; ");
        Check.same("a flaw in the lower left corner", flawsOf(restOfFlawed(new int[] {1, 0, 1, 1}), 1), "0 0 1 1; ");
        Check.same("a flaw in the upper right corner", flawsOf(restOfFlawed(new int[] {700, 599, 1, 1}), 1),
                "699 599 1 1; ");
        Hall both = restsOfTwoColumns(new int[] {0, 390, 900, 310});
        Check.same("a flaw of both, in the first", flawsOf(both, 1), "0 0 500 310; ");
        Check.same("a flaw of both, in the second", flawsOf(both, 2), "0 0 400 310; ");
        Hall above = restsOfTwoRows(new int[] {350, 310, 350, 690});
        Check.same("a flaw of both rows, in the upper", flawsOf(above, 1), "350 0 350 390; ");
        Check.same("a flaw of both rows, in the lower", flawsOf(above, 2), "0 0 350 300; ");
    }

    /** "in their order": those that it does not meet are left out, all six may be met. */
    private static void flawsStayInTheirOrder() {
        Check.same("three of six", flawsOf(restOfFlawed(new int[] {600, 500, 1, 1}, new int[] {0, 100, 1, 1},
                new int[] {300, 200, 2, 2}, new int[] {0, 300, 1, 1}, new int[] {0, 50, 9, 9},
                new int[] {0, 400, 1, 1}), 1), "599 500 1 1; 299 200 2 2; 0 50 8 9; ");
        Check.same("six of six", flawsOf(restOfFlawed(new int[] {60, 50, 1, 1}, new int[] {50, 50, 1, 1},
                new int[] {40, 50, 1, 1}, new int[] {30, 50, 1, 1}, new int[] {20, 50, 1, 1},
                new int[] {10, 50, 1, 1}), 1),
                "59 50 1 1; 49 50 1 1; 39 50 1 1; 29 50 1 1; 19 50 1 1; 9 50 1 1; ");
    }

    private static void offcutsOfOffcutsHaveTheirFlaws() {
        Hall hall = restOfFlawed(new int[] {90, 400, 30, 20}, new int[] {400, 250, 7, 8});
        hall.order(99, 250, false, 1);
        hall.plan(1);
        hall.score(1);
        hall.use(0);
        Check.same("flaws of an offcut of an offcut", flawsOf(hall, 2), "0 400 20 20; 300 250 7 8; ");
    }
}
