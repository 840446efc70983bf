/** Promise 12, use. */
public final class UseTest {
    public static void main(String[] args) {
        isASheetOfItsSize();
        isNoOffcutAnyMore();
        idsGoOn();
        itsFlawsGoWithIt();
        isPlannedAndCutAgain();
        numbersBehindItMoveUp();
        theLastIsUsedTheNextIsRefused();
        theEighthSheetIsTakenTheNinthIsRefused();
        noSuchOffcutIsToldBeforeEight();
        Check.end();
    }

    /** "Offcut k becomes a sheet". */
    private static void isASheetOfItsSize() {
        Hall hall = Check.hallOf(h -> Scenes.offcuts(h, new int[][] {{310, 420}}));
        int id = hall.use(0);
        Check.same("area of sheets", hall.area(0), 310 * 420);
        hall.order(310, 420, false, 1);
        hall.plan(id);
        Trees.areAs("a pane of its size", hall, id, "P 0 0 310 420 1 -1 -1 1");
    }

    private static void isNoOffcutAnyMore() {
        Hall hall = Check.hallOf(h -> Scenes.offcuts(h, 1));
        hall.use(0);
        Check.same("offcuts", hall.total(3), 0);
        Check.same("area of offcuts", hall.area(2), 0);
        Check.same("sheets", hall.total(0), 1);
        Check.same("area made by sheet()", hall.area(6), 301 * 300);
        Check.same("fit", hall.fit(1, 1), Hall.NONE);
        Check.same("rack", Check.outcome(hall, h -> h.rack(0, 0)), "throws NoSuchElementException");
    }

    /** "its id"; "sheets ever, with those made of offcuts". */
    private static void idsGoOn() {
        Hall hall = Check.hallOf(h -> Scenes.offcuts(h, 2));
        Check.same("id of the first", hall.use(0), 2);
        Check.same("id of the second", hall.use(0), 3);
        Check.same("id of a new sheet", hall.sheet(10, 10), 4);
        Check.same("sheets ever", hall.total(4), 5);
    }

    private static void itsFlawsGoWithIt() {
        Hall hall = new CountedHall();
        hall.order(1, 1, false, 1);
        hall.sheet(301, 300);
        hall.flaw(0, 200, 210, 30, 40);
        hall.plan(0);
        hall.score(0);
        hall.broke(0, 1);
        Scenes.offcut(hall, 0, 400, 400);
        Check.same("id", hall.use(0), 2);
        Check.same("its flaw", Story.flaw(hall, 2, 0), "199 210 30 40");
        Check.same("flaws of the other offcut", hall.rack(0, 2), 0);
        Check.same("id", hall.use(0), 3);
        Check.same("flaws of the other sheet", Story.flaws(hall, 3), "flaw throws IndexOutOfBoundsException\n");
    }

    private static void isPlannedAndCutAgain() {
        Hall hall = Check.hallOf(h -> Scenes.offcuts(h, new int[][] {{700, 400}}));
        int id = hall.use(0);
        hall.order(300, 400, false, 1);
        Check.same("exact", hall.exact(id, 1, Hall.NONE, Hall.NONE), 1);
        Check.same("score", hall.score(id), 0);
        Check.same("its own offcut", Story.offcut(hall, 0), "400 400 0");
        Check.same("sheets", hall.total(0), 0);
    }

    private static void numbersBehindItMoveUp() {
        Check.same("the first is used", widthsAfterUse(0), "301 302 303 ");
        Check.same("the second is used", widthsAfterUse(1), "300 302 303 ");
        Check.same("the last is used", widthsAfterUse(3), "300 301 302 ");
    }

    private static String widthsAfterUse(int k) {
        Hall hall = Check.hallOf(h -> Scenes.offcuts(h, 4));
        hall.use(k);
        Check.same("area of what is used", hall.area(0), (300 + k) * 300);
        StringBuilder text = new StringBuilder();
        for (int i = 0; i < hall.total(3); i++) {
            text.append(hall.rack(i, 0)).append(' ');
        }
        return text.toString();
    }

    /** "NoSuchElement: there is no such offcut". */
    private static void theLastIsUsedTheNextIsRefused() {
        Check.same("the last of ten", Check.hallOf(h -> Scenes.offcuts(h, 10)).use(9), 10);
        Check.refused("use(10) of ten", h -> Scenes.offcuts(h, 10), Check.ELEMENT, h -> h.use(10));
        for (int k : new int[] {-1, 2, 9, 10, Check.MIN, Check.MAX}) {
            Check.refused("use(" + k + ") of two", h -> Scenes.offcuts(h, 2), Check.ELEMENT, h -> h.use(k));
        }
        Check.refused("use when all are used", h -> {
            Scenes.offcuts(h, 1);
            h.use(0);
        }, Check.ELEMENT, h -> h.use(0));
    }

    private static void offcutsAndSheets(Hall hall, int sheets) {
        Scenes.offcuts(hall, 2);
        Scenes.sheets(hall, sheets);
    }

    /** "IllegalState: there are 8 sheets". */
    private static void theEighthSheetIsTakenTheNinthIsRefused() {
        Hall hall = Check.hallOf(h -> offcutsAndSheets(h, 7));
        Check.same("use beside seven", hall.use(1), 9);
        Check.same("sheets", hall.total(0), 8);
        Check.refused("use beside eight", h -> offcutsAndSheets(h, 8), Check.STATE, h -> h.use(0));
        Check.refused("use beside eight, one of them of an offcut", h -> {
            offcutsAndSheets(h, 7);
            h.use(0);
        }, Check.STATE, h -> h.use(0));
    }

    private static void noSuchOffcutIsToldBeforeEight() {
        for (int k : new int[] {-1, 2, Check.MIN, Check.MAX}) {
            Check.refused("use(" + k + ") beside eight", h -> offcutsAndSheets(h, 8), Check.ELEMENT, h -> h.use(k));
        }
    }
}
