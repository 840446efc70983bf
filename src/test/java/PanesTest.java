/** Promise 16, panes: "how many panes are open (what = 0), planned (1), done (2)". */
public final class PanesTest {
    public static void main(String[] args) {
        allAreOpenAtFirst();
        plannedPanesAreNotOpen();
        donePanesAreNotPlanned();
        brokenPanesAreOpenAgain();
        cancelledPanesAreOpenAgain();
        eachOrderHasItsOwn();
        noSuchOrderIsRefused();
        anotherWhatIsRefused();
        noSuchOrderIsToldBeforeAnotherWhat();
        Check.end();
    }

    /** Five panes, two of which fill the sheet but for 20. */
    private static void twoOfFivePlanned(Hall hall) {
        hall.order(40, 10, false, 5);
        hall.sheet(100, 10);
        hall.plan(0);
    }

    private static void allAreOpenAtFirst() {
        Hall hall = Check.hallOf(h -> h.order(40, 10, false, 6));
        Check.same("open", hall.panes(0, 0), 6);
        Check.same("planned", hall.panes(0, 1), 0);
        Check.same("done", hall.panes(0, 2), 0);
    }

    private static void plannedPanesAreNotOpen() {
        Hall hall = Check.hallOf(PanesTest::twoOfFivePlanned);
        Check.same("open", hall.panes(0, 0), 3);
        Check.same("planned", hall.panes(0, 1), 2);
        Check.same("done", hall.panes(0, 2), 0);
    }

    private static void donePanesAreNotPlanned() {
        Hall hall = Check.hallOf(PanesTest::twoOfFivePlanned);
        hall.score(0);
        Check.same("panes after one cut", Story.panes(hall, 0), "3 1 1");
        hall.score(0);
        Check.same("panes after all cuts", Story.panes(hall, 0), "3 0 2");
    }

    private static void brokenPanesAreOpenAgain() {
        Hall hall = Check.hallOf(PanesTest::twoOfFivePlanned);
        hall.score(0);
        hall.broke(0, 2);
        Check.same("panes when the other piece broke", Story.panes(hall, 0), "4 0 1");
    }

    private static void cancelledPanesAreOpenAgain() {
        Hall hall = Check.hallOf(PanesTest::twoOfFivePlanned);
        hall.cancel(0);
        Check.same("panes after cancel", Story.panes(hall, 0), "5 0 0");
    }

    private static void eachOrderHasItsOwn() {
        Hall hall = Check.hallOf(PanesTest::twoOfFivePlanned);
        hall.order(20, 10, false, 2);
        hall.sheet(20, 10);
        hall.plan(1);
        Check.same("panes of order 0", Story.panes(hall, 0), "3 2 0");
        Check.same("panes of order 1", Story.panes(hall, 1), "1 1 0");
        hall.score(1);
        Check.same("panes of order 0", Story.panes(hall, 0), "3 2 0");
        Check.same("panes of order 1", Story.panes(hall, 1), "1 0 1");
    }

    /** "NoSuchElement: there is no such order". */
    private static void noSuchOrderIsRefused() {
        for (int order : new int[] {-1, 1, 5, 6, Check.MIN, Check.MAX}) {
            Check.refused("panes of order " + order, PanesTest::twoOfFivePlanned, Check.ELEMENT,
                    h -> h.panes(order, 0));
        }
        Hall full = Check.hallOf(h -> {
            for (int i = 1; i <= 6; i++) {
                h.order(10, 10, false, i);
            }
        });
        Check.same("panes of the last order", full.panes(5, 0), 6);
        Check.same("panes of order 6", Check.outcome(full, h -> h.panes(6, 0)), "throws NoSuchElementException");
    }

    /** "IllegalArgument: another what". */
    private static void anotherWhatIsRefused() {
        for (int what : new int[] {-1, 3, Check.MIN, Check.MAX}) {
            Check.refused("panes(0, " + what + ")", PanesTest::twoOfFivePlanned, Check.ARGUMENT,
                    h -> h.panes(0, what));
        }
    }

    private static void noSuchOrderIsToldBeforeAnotherWhat() {
        for (int order : new int[] {-1, 1, 6, Check.MIN, Check.MAX}) {
            Check.refused("another what of order " + order, PanesTest::twoOfFivePlanned, Check.ELEMENT,
                    h -> h.panes(order, 3));
        }
    }
}
