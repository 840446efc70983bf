/** Promise 11, cancel. */
public final class CancelTest {
    public static void main(String[] args) {
        isNotPlannedAnyMore();
        itsPanesAreOpenAgain();
        aWholePaneIsCancelled();
        isPlannedAnew();
        flawsStay();
        otherSheetsStayPlanned();
        noSuchSheetIsRefused();
        notPlannedIsRefused();
        scoredIsRefused();
        Check.end();
    }

    /** "A sheet is not planned any more". */
    private static void isNotPlannedAnyMore() {
        Hall hall = Check.hallOf(Scenes::planned);
        hall.cancel(0);
        Check.same("sheets", hall.total(0), 1);
        Check.same("planned sheets", hall.total(1), 0);
        Check.same("area of sheets that are not planned", hall.area(0), 6000);
        Check.same("waiting area", hall.area(5), 0);
        Check.same("nodes", Check.outcome(hall, h -> h.nodes(0)), "throws IllegalStateException");
    }

    /** "its panes are open again: how many". */
    private static void itsPanesAreOpenAgain() {
        Hall hall = Check.hallOf(Scenes::planned);
        Check.same("panes of the plan", hall.cancel(0), 3);
        Check.same("panes", Story.panes(hall, 0), "3 0 0");
    }

    private static void aWholePaneIsCancelled() {
        Hall hall = new CountedHall();
        hall.order(30, 40, false, 1);
        hall.sheet(30, 40);
        hall.plan(0);
        Check.same("panes of a sheet that is one", hall.cancel(0), 1);
        Check.same("panes", Story.panes(hall, 0), "1 0 0");
        Check.same("sheets", hall.total(0), 1);
    }

    private static void isPlannedAnew() {
        Hall hall = Check.hallOf(Scenes::planned);
        String tree = Trees.tell(hall, 0);
        hall.cancel(0);
        Check.same("plan again", hall.plan(0), 3);
        Check.same("tree again", Trees.tell(hall, 0), tree);
        hall.cancel(0);
        Check.same("exact after cancel", hall.exact(0, 0, Hall.NONE, Hall.NONE), 1);
        Check.same("nodes of one pane", hall.nodes(0), 5);
        Check.same("panes of one", hall.cancel(0), 1);
    }

    private static void flawsStay() {
        Hall hall = new CountedHall();
        hall.order(30, 40, false, 3);
        hall.sheet(60, 100);
        hall.flaw(0, 50, 90, 5, 6);
        hall.plan(0);
        hall.cancel(0);
        Check.same("flaw after cancel", Story.flaw(hall, 0, 0), "50 90 5 6");
    }

    private static void otherSheetsStayPlanned() {
        Hall hall = Check.hallOf(Scenes::planned);
        hall.order(10, 10, false, 2);
        hall.sheet(20, 10);
        hall.plan(1);
        hall.cancel(0);
        Check.same("states of the other sheet", Trees.states(hall, 1), "100");
        Check.same("panes of the other sheet", Story.panes(hall, 1), "0 2 0");
    }

    private static void noSuchSheetIsRefused() {
        Check.noSuchSheet("cancel", Hall::cancel);
    }

    /** "IllegalState: it is not planned, or was scored". */
    private static void notPlannedIsRefused() {
        Check.notPlanned("cancel", Hall::cancel);
    }

    private static void scoredIsRefused() {
        Check.refused("cancel of a sheet that was scored", Scenes::scoredOnce, Check.STATE, h -> h.cancel(0));
        Check.refused("cancel when a part of it broke", h -> {
            Scenes.scoredOnce(h);
            h.broke(0, 1);
        }, Check.STATE, h -> h.cancel(0));
        Check.refused("cancel before the last cut", h -> {
            Scenes.scoredOnce(h);
            h.score(0);
            h.score(0);
        }, Check.STATE, h -> h.cancel(0));
    }
}
