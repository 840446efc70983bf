/** Promise 2, sheet, and what the terms say of sheets. */
public final class SheetTest {
    private static final int[] LENGTHS = {1, 2, 5999, 6000};
    private static final int[] NO_LENGTHS = {0, -1, 6001, 65537, Check.MIN, Check.MAX};

    public static void main(String[] args) {
        widthIsFrom1To6000();
        heightIsFrom1To6000();
        bothAreFrom1To6000();
        theEighthIsTakenTheNinthIsRefused();
        plannedSheetsAreAmongTheEight();
        sheetsThatAreCutAreAmongTheEight();
        sheetsOfOffcutsAreAmongTheEight();
        aSheetThatIsGoneMakesRoomForOne();
        aWrongSizeIsToldBeforeEight();
        idsCountFrom0();
        idsAreNotGivenTwice();
        refusedSheetsTakeNoId();
        Check.end();
    }

    /** "IllegalArgument: width or height is not 1 .. 6000": the width. */
    private static void widthIsFrom1To6000() {
        for (int w : LENGTHS) {
            Hall hall = new CountedHall();
            Check.same("sheet(" + w + ", 10)", hall.sheet(w, 10), 0);
            Check.same("its area", hall.area(0), 10L * w);
            hall.order(w, 10, false, 1);
            hall.plan(0);
            Trees.areAs("a pane of its size", hall, 0, "P 0 0 " + w + " 10 0 -1 -1 1");
        }
        for (int w : NO_LENGTHS) {
            Check.refused("sheet(" + w + ", 10)", Scenes::empty, Check.ARGUMENT, h -> h.sheet(w, 10));
        }
    }

    /** "IllegalArgument: width or height is not 1 .. 6000": the height. */
    private static void heightIsFrom1To6000() {
        for (int h : LENGTHS) {
            Hall hall = new CountedHall();
            Check.same("sheet(10, " + h + ")", hall.sheet(10, h), 0);
            Check.same("its area", hall.area(0), 10L * h);
            hall.order(10, h, false, 1);
            hall.plan(0);
            Trees.areAs("a pane of its size", hall, 0, "P 0 0 10 " + h + " 0 -1 -1 1");
        }
        for (int h : NO_LENGTHS) {
            Check.refused("sheet(10, " + h + ")", Scenes::empty, Check.ARGUMENT, hall -> hall.sheet(10, h));
        }
    }

    private static void bothAreFrom1To6000() {
        Hall hall = new CountedHall();
        Check.same("the smallest sheet", hall.sheet(1, 1), 0);
        Check.same("the largest sheet", hall.sheet(6000, 6000), 1);
        Check.same("the narrowest sheet", hall.sheet(1, 6000), 2);
        Check.same("the lowest sheet", hall.sheet(6000, 1), 3);
        Check.same("their area", hall.area(0), 1 + 36_000_000 + 6000 + 6000);
        for (int n : NO_LENGTHS) {
            Check.refused("sheet(" + n + ", " + n + ")", Scenes::empty, Check.ARGUMENT, h -> h.sheet(n, n));
        }
    }

    /** "at most 8 are there at a time"; "IllegalState: there are 8". */
    private static void theEighthIsTakenTheNinthIsRefused() {
        Hall hall = Check.hallOf(h -> Scenes.sheets(h, 7));
        Check.same("the eighth sheet", hall.sheet(10, 10), 7);
        Check.same("sheets", hall.total(0), 8);
        Check.refused("a ninth sheet", h -> Scenes.sheets(h, 8), Check.STATE, h -> h.sheet(10, 10));
    }

    private static void plannedSheetsAreAmongTheEight() {
        Check.refused("a sheet beside seven and a planned one", h -> {
            Scenes.planned(h);
            Scenes.sheets(h, 7);
        }, Check.STATE, h -> h.sheet(10, 10));
    }

    private static void sheetsThatAreCutAreAmongTheEight() {
        Check.refused("a sheet beside seven and one that is cut", h -> {
            Scenes.scoredOnce(h);
            Scenes.sheets(h, 7);
        }, Check.STATE, h -> h.sheet(10, 10));
    }

    private static void sheetsOfOffcutsAreAmongTheEight() {
        Hall hall = Check.hallOf(SheetTest::anOffcutThatIsASheetAndSixMore);
        Check.same("the eighth, beside one of an offcut", hall.sheet(10, 10), 8);
        Check.refused("a ninth, beside one of an offcut", h -> {
            anOffcutThatIsASheetAndSixMore(h);
            h.sheet(10, 10);
        }, Check.STATE, h -> h.sheet(10, 10));
    }

    private static void anOffcutThatIsASheetAndSixMore(Hall hall) {
        Scenes.offcuts(hall, 1);
        hall.use(0);
        Scenes.sheets(hall, 6);
    }

    /** "When nothing waits any more, the sheet is not there any more": there is room for one again, not for two. */
    private static void aSheetThatIsGoneMakesRoomForOne() {
        Hall hall = Check.hallOf(SheetTest::oneOfEightIsGone);
        Check.same("sheets when one is gone", hall.total(0), 7);
        Check.same("a sheet in its room", hall.sheet(20, 30), 8);
        Check.same("its area, and that of the others", hall.area(0), 700 + 600);
        Check.refused("a sheet more", h -> {
            oneOfEightIsGone(h);
            h.sheet(20, 30);
        }, Check.STATE, h -> h.sheet(10, 10));
    }

    private static void oneOfEightIsGone(Hall hall) {
        Scenes.sheets(hall, 8);
        hall.order(10, 10, false, 1);
        hall.plan(3);
        hall.score(3);
    }

    /** "the first that is so, in the order in which it is told": the size before the eight. */
    private static void aWrongSizeIsToldBeforeEight() {
        for (int n : NO_LENGTHS) {
            Check.refused("a ninth sheet of a wrong width", h -> Scenes.sheets(h, 8), Check.ARGUMENT,
                    h -> h.sheet(n, 10));
            Check.refused("a ninth sheet of a wrong height", h -> Scenes.sheets(h, 8), Check.ARGUMENT,
                    h -> h.sheet(10, n));
        }
    }

    /** "SHEETS have ids, from 0 on". */
    private static void idsCountFrom0() {
        Hall hall = new CountedHall();
        for (int i = 0; i < 8; i++) {
            Check.same("id", hall.sheet(10 + i, 10), i);
        }
    }

    /** "never given twice": not that of a sheet that is cut up, nor of one that broke, nor of one of an offcut. */
    private static void idsAreNotGivenTwice() {
        Hall hall = new CountedHall();
        hall.order(1, 1, false, 1);
        for (int id = 0; id < 20; id++) {
            Check.same("id after one that broke", hall.sheet(1, 1), id);
            hall.plan(id);
            hall.broke(id, 0);
        }
        Scenes.offcut(hall, 0, 300, 300);
        Check.same("id of an offcut", hall.use(0), 21);
        Check.same("id of one that is cut up", hall.sheet(1, 1), 22);
        hall.plan(22);
        hall.score(22);
        Check.same("id after it", hall.sheet(10, 10), 23);
        Check.same("sheets ever", hall.total(4), 24);
    }

    /** "a call that throws changes nothing". */
    private static void refusedSheetsTakeNoId() {
        Hall hall = new CountedHall();
        for (int n : NO_LENGTHS) {
            Check.outcome(hall, h -> h.sheet(n, 10));
            Check.outcome(hall, h -> h.sheet(10, n));
        }
        Check.same("id after refused sheets", hall.sheet(10, 10), 0);
        Check.same("area made", hall.area(6), 100);
    }
}
