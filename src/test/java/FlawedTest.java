/** Promise 15, flawed. */
public final class FlawedTest {
    public static void main(String[] args) {
        tellsEachMeasure();
        flawsCountFrom0InTheirOrder();
        beyondTheLastFlawIsRefused();
        aSheetWithoutFlawsHasNoFlaw0();
        anotherWhatIsRefused();
        noSuchSheetIsToldFirst();
        noSuchFlawIsToldBeforeAnotherWhat();
        plannedSheetsTellTheirs();
        Check.end();
    }

    /** Sheet 0 has none, sheet 1 has two. */
    private static void twoFlaws(Hall hall) {
        hall.sheet(50, 50);
        hall.sheet(100, 200);
        hall.flaw(1, 10, 20, 30, 40);
        hall.flaw(1, 99, 199, 1, 1);
    }

    /** "x (what = 0), y (1), its width (2), its height (3)". */
    private static void tellsEachMeasure() {
        Hall hall = Check.hallOf(FlawedTest::twoFlaws);
        Check.same("x", hall.flawed(1, 0, 0), 10);
        Check.same("y", hall.flawed(1, 0, 1), 20);
        Check.same("width", hall.flawed(1, 0, 2), 30);
        Check.same("height", hall.flawed(1, 0, 3), 40);
    }

    private static void flawsCountFrom0InTheirOrder() {
        Hall hall = Check.hallOf(FlawedTest::twoFlaws);
        Check.same("flaw 0", Story.flaw(hall, 1, 0), "10 20 30 40");
        Check.same("flaw 1", Story.flaw(hall, 1, 1), "99 199 1 1");
    }

    /** "IndexOutOfBounds: there is no such flaw". */
    private static void beyondTheLastFlawIsRefused() {
        for (int k : new int[] {-1, 2, 5, 6, 7, Check.MIN, Check.MAX}) {
            Check.refused("flawed(1, " + k + ", 0)", FlawedTest::twoFlaws, Check.INDEX, h -> h.flawed(1, k, 0));
        }
        Check.refused("flaw 6 of six", h -> {
            h.sheet(10, 10);
            for (int k = 0; k < 6; k++) {
                h.flaw(0, k, k, 1, 1);
            }
        }, Check.INDEX, h -> h.flawed(0, 6, 0));
    }

    private static void aSheetWithoutFlawsHasNoFlaw0() {
        Check.refused("flaw 0 of none", FlawedTest::twoFlaws, Check.INDEX, h -> h.flawed(0, 0, 0));
    }

    /** "IllegalArgument: another what". */
    private static void anotherWhatIsRefused() {
        for (int what : new int[] {-1, 4, 8, Check.MIN, Check.MAX}) {
            Check.refused("flawed(1, 1, " + what + ")", FlawedTest::twoFlaws, Check.ARGUMENT,
                    h -> h.flawed(1, 1, what));
        }
    }

    private static void noSuchSheetIsToldFirst() {
        Check.noSuchSheet("flaw 0", (h, id) -> h.flawed(id, 0, 0));
        Check.noSuchSheet("another what of no flaw", (h, id) -> h.flawed(id, -1, 4));
    }

    private static void noSuchFlawIsToldBeforeAnotherWhat() {
        for (int k : new int[] {-1, 2, Check.MIN, Check.MAX}) {
            Check.refused("another what of flaw " + k, FlawedTest::twoFlaws, Check.INDEX, h -> h.flawed(1, k, 4));
        }
    }

    private static void plannedSheetsTellTheirs() {
        Hall hall = Check.hallOf(FlawedTest::twoFlaws);
        hall.order(10, 10, false, 3);
        hall.plan(1);
        Check.same("flaw of a planned sheet", Story.flaw(hall, 1, 0), "10 20 30 40");
        hall.score(1);
        Check.same("flaw of a sheet that is cut", Story.flaw(hall, 1, 1), "99 199 1 1");
    }
}
