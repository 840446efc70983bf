/** Promise 3, flaw, and what the terms say of flaws. */
public final class FlawTest {
    public static void main(String[] args) {
        answersHowMany();
        widthIsAtLeast1();
        heightIsAtLeast1();
        liesInTheWidthOfTheSheet();
        liesInTheHeightOfTheSheet();
        sumsDoNotWrapAround();
        cornersOfTheSheetAreInIt();
        cornersOfTheLargestSheetAreInIt();
        theSixthIsTakenTheSeventhIsRefused();
        eachSheetHasItsOwnSix();
        flawsOfAnOffcutAreAmongTheSix();
        aPlannedSheetTakesNone();
        aSheetThatIsCutTakesNone();
        aCancelledSheetTakesSomeAgain();
        noSuchSheetIsToldFirst();
        aWrongFlawIsToldBeforeTheState();
        newSheetsHaveNone();
        Check.end();
    }

    private static void blank(Hall hall) {
        hall.sheet(100, 200);
    }

    private static void taken(int x, int y, int w, int h) {
        Hall hall = Check.hallOf(FlawTest::blank);
        Check.same("flaw " + x + " " + y + " " + w + " " + h, hall.flaw(0, x, y, w, h), 1);
        Check.same("what it is", Story.flaw(hall, 0, 0), x + " " + y + " " + w + " " + h);
    }

    private static void refused(int x, int y, int w, int h) {
        Check.refused("flaw " + x + " " + y + " " + w + " " + h, FlawTest::blank, Check.ARGUMENT,
                hall -> hall.flaw(0, x, y, w, h));
    }

    /** "how many it has": of its own, though two are alike. */
    private static void answersHowMany() {
        Hall hall = Check.hallOf(FlawTest::blank);
        hall.sheet(100, 200);
        Check.same("the first flaw", hall.flaw(0, 10, 20, 30, 40), 1);
        Check.same("one that is alike", hall.flaw(0, 10, 20, 30, 40), 2);
        Check.same("the first of another sheet", hall.flaw(1, 10, 20, 30, 40), 1);
        Check.same("one that meets the others", hall.flaw(0, 0, 0, 100, 200), 3);
        Check.same("area of sheets with flaws", hall.area(0), 40_000);
    }

    /** "w or h is less than 1". */
    private static void widthIsAtLeast1() {
        taken(10, 10, 1, 5);
        refused(10, 10, 0, 5);
        refused(10, 10, -1, 5);
        refused(10, 10, Check.MIN, 5);
        refused(100, 10, 0, 5);
    }

    private static void heightIsAtLeast1() {
        taken(10, 10, 5, 1);
        refused(10, 10, 5, 0);
        refused(10, 10, 5, -1);
        refused(10, 10, 5, Check.MIN);
        refused(10, 200, 5, 0);
    }

    /** "or it is not wholly in the sheet". */
    private static void liesInTheWidthOfTheSheet() {
        taken(0, 10, 5, 5);
        refused(-1, 10, 5, 5);
        taken(95, 10, 5, 5);
        refused(96, 10, 5, 5);
        taken(0, 10, 100, 5);
        refused(0, 10, 101, 5);
        refused(-1, 10, 101, 5);
        refused(-5, 10, 5, 5);
        taken(99, 10, 1, 5);
        refused(100, 10, 1, 5);
        refused(150, 10, 5, 5);
    }

    private static void liesInTheHeightOfTheSheet() {
        taken(10, 0, 5, 5);
        refused(10, -1, 5, 5);
        taken(10, 195, 5, 5);
        refused(10, 196, 5, 5);
        taken(10, 0, 5, 200);
        refused(10, 0, 5, 201);
        refused(10, -1, 5, 201);
        refused(10, -5, 5, 5);
        taken(10, 199, 5, 1);
        refused(10, 200, 5, 1);
    }

    private static void sumsDoNotWrapAround() {
        refused(Check.MAX, 10, 5, 5);
        refused(Check.MAX, 10, Check.MAX, 5);
        refused(1, 10, Check.MAX, 5);
        refused(Check.MIN, 10, Check.MAX, 5);
        refused(Check.MIN, 10, 5, 5);
        refused(Check.MIN, 10, Check.MIN, 5);
        refused(10, Check.MAX, 5, 5);
        refused(10, Check.MAX, 5, Check.MAX);
        refused(10, 1, 5, Check.MAX);
        refused(10, Check.MIN, 5, Check.MAX);
        refused(10, Check.MIN, 5, 5);
        refused(10, Check.MIN, 5, Check.MIN);
    }

    private static void cornersOfTheSheetAreInIt() {
        taken(0, 0, 1, 1);
        taken(99, 0, 1, 1);
        taken(0, 199, 1, 1);
        taken(99, 199, 1, 1);
        taken(0, 0, 100, 200);
    }

    private static void cornersOfTheLargestSheetAreInIt() {
        Hall hall = Check.hallOf(h -> h.sheet(6000, 6000));
        Check.same("a flaw of all of it", hall.flaw(0, 0, 0, 6000, 6000), 1);
        Check.same("a flaw in its corner", hall.flaw(0, 5999, 5999, 1, 1), 2);
        Check.refused("a flaw too wide by 1", h -> h.sheet(6000, 6000), Check.ARGUMENT,
                h -> h.flaw(0, 0, 0, 6001, 6000));
        Check.refused("a flaw too high by 1", h -> h.sheet(6000, 6000), Check.ARGUMENT,
                h -> h.flaw(0, 0, 0, 6000, 6001));
    }

    private static void flaws(Hall hall, int count) {
        blank(hall);
        for (int k = 0; k < count; k++) {
            hall.flaw(0, 90 + k, 180 + k, 1, 2);
        }
    }

    /** "up to 6 FLAWS"; "IllegalState: the sheet is planned, or has 6". */
    private static void theSixthIsTakenTheSeventhIsRefused() {
        Hall hall = Check.hallOf(FlawTest::blank);
        for (int k = 0; k < 6; k++) {
            Check.same("how many with flaw " + k, hall.flaw(0, 90 + k, 180 + k, 1, 2), k + 1);
        }
        for (int k = 0; k < 6; k++) {
            Check.same("flaw " + k + " of six", Story.flaw(hall, 0, k), 90 + k + " " + (180 + k) + " 1 2");
        }
        Check.refused("a seventh flaw", h -> flaws(h, 6), Check.STATE, h -> h.flaw(0, 50, 50, 1, 1));
    }

    private static void eachSheetHasItsOwnSix() {
        Hall hall = Check.hallOf(h -> flaws(h, 6));
        hall.sheet(100, 200);
        for (int k = 0; k < 6; k++) {
            Check.same("flaw beside a sheet that has six", hall.flaw(1, k, k, 1, 1), k + 1);
        }
    }

    private static void offcutWithFlaws(Hall hall, int count) {
        Scenes.flawedOffcut(hall, count);
        hall.use(0);
    }

    private static void flawsOfAnOffcutAreAmongTheSix() {
        Hall hall = Check.hallOf(h -> offcutWithFlaws(h, 5));
        Check.same("a sixth flaw of what was an offcut", hall.flaw(1, 0, 0, 1, 1), 6);
        Check.refused("a seventh", h -> {
            offcutWithFlaws(h, 5);
            h.flaw(1, 0, 0, 1, 1);
        }, Check.STATE, h -> h.flaw(1, 0, 0, 1, 1));
        Check.refused("a seventh of an offcut with six", h -> offcutWithFlaws(h, 6), Check.STATE,
                h -> h.flaw(1, 0, 0, 1, 1));
    }

    /** "IllegalState: the sheet is planned", by strips or by trying all. */
    private static void aPlannedSheetTakesNone() {
        Check.refused("flaw of a sheet planned by strips", Scenes::planned, Check.STATE, h -> h.flaw(0, 0, 0, 1, 1));
        Check.refused("flaw of a sheet planned by trying", h -> {
            blank(h);
            h.order(10, 10, false, 1);
            h.exact(0, 0, Hall.NONE, Hall.NONE);
        }, Check.STATE, h -> h.flaw(0, 99, 99, 1, 1));
        Check.refused("flaw of a planned sheet that has six", h -> {
            flaws(h, 6);
            h.order(1, 1, false, 1);
            h.plan(0);
        }, Check.STATE, h -> h.flaw(0, 99, 99, 1, 1));
    }

    private static void aSheetThatIsCutTakesNone() {
        Check.refused("flaw of a sheet that is cut", Scenes::scoredOnce, Check.STATE, h -> h.flaw(0, 0, 0, 1, 1));
    }

    private static void aCancelledSheetTakesSomeAgain() {
        Hall hall = Check.hallOf(Scenes::planned);
        hall.cancel(0);
        Check.same("flaw after cancel", hall.flaw(0, 59, 99, 1, 1), 1);
    }

    /** "the first that is so": no sheet, before a flaw that is wrong. */
    private static void noSuchSheetIsToldFirst() {
        Check.noSuchSheet("a right flaw", (h, id) -> h.flaw(id, 0, 0, 1, 1));
        Check.noSuchSheet("a wrong flaw", (h, id) -> h.flaw(id, -1, -1, 0, 0));
    }

    /** "the first that is so": a flaw that is wrong, before a sheet that is planned or has six. */
    private static void aWrongFlawIsToldBeforeTheState() {
        int[][] wrong = {{0, 0, 0, 1}, {0, 0, 1, 0}, {-1, 0, 1, 1}, {0, -1, 1, 1}, {100, 0, 1, 1}, {0, 200, 1, 1}};
        for (int[] f : wrong) {
            Check.refused("a wrong flaw of a planned sheet", Scenes::planned, Check.ARGUMENT,
                    h -> h.flaw(0, f[0], f[1], f[2], f[3]));
            Check.refused("a wrong seventh flaw", h -> flaws(h, 6), Check.ARGUMENT,
                    h -> h.flaw(0, f[0], f[1], f[2], f[3]));
        }
    }

    /** A sheet in the room of one that is gone has none of its flaws. */
    private static void newSheetsHaveNone() {
        Hall hall = Check.hallOf(h -> flaws(h, 6));
        hall.order(1, 1, false, 1);
        Scenes.sheets(hall, 7);
        hall.plan(0);
        hall.broke(0, 0);
        Check.same("a sheet in the room of one that is gone", hall.sheet(50, 50), 8);
        Check.same("its first flaw", hall.flaw(8, 49, 49, 1, 1), 1);
    }
}
