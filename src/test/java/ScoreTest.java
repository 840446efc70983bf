/** Promise 9, score, and what the terms say of scoring. */
public final class ScoreTest {
    public static void main(String[] args) {
        atFirstTheWholeSheetWaits();
        theFirstCutThatWaitsIsCut();
        bothPartsWait();
        panesThatWouldWaitAreDone();
        restsThatWouldWaitAreOver();
        aWholePaneIsTaken();
        theSheetGoesWhenNothingWaits();
        brokenPiecesAreNotCut();
        sheetsAreCutOneByOne();
        notPlannedIsRefused();
        noSuchSheetIsRefused();
        Check.end();
    }

    /** "at first the whole sheet waits, all others are to come": also where a sheet was cut up before. */
    private static void atFirstTheWholeSheetWaits() {
        Hall hall = Check.hallOf(Scenes::scoredOnce);
        Check.same("states of the sheet before", Trees.states(hall, 0), "210000100");
        hall.score(0);
        hall.broke(0, 3);
        hall.score(0);
        hall.order(30, 40, false, 2);
        hall.sheet(60, 100);
        hall.plan(1);
        Check.same("states of a new sheet", Trees.states(hall, 1), "100000000");
        hall.cancel(1);
        hall.plan(1);
        Check.same("states of a new plan", Trees.states(hall, 1), "100000000");
        hall.cancel(1);
        hall.exact(1, 1, 1, Hall.NONE);
        Check.same("states of a plan by trying", Trees.states(hall, 1), "10000");
    }

    /** "TO SCORE is to cut the first node that waits and is a cut"; "Scores once: the node". */
    private static void theFirstCutThatWaitsIsCut() {
        Hall hall = Check.hallOf(Scenes::planned);
        Check.same("first", hall.score(0), 0);
        Check.same("second", hall.score(0), 1);
        Check.same("third", hall.score(0), 3);
        Check.same("last", hall.score(0), 6);
    }

    /** "it is over, and both parts wait". */
    private static void bothPartsWait() {
        Hall hall = Check.hallOf(Scenes::planned);
        Check.same("states at first", Trees.states(hall, 0), "100000000");
        hall.score(0);
        Check.same("states after a cut", Trees.states(hall, 0), "210000100");
    }

    /** "A pane that would wait is done, and over". */
    private static void panesThatWouldWaitAreDone() {
        Hall hall = Check.hallOf(Scenes::scoredOnce);
        hall.score(0);
        Check.same("states", Trees.states(hall, 0), "222100100");
        Check.same("panes", Story.panes(hall, 0), "0 2 1");
        Check.same("area of done panes", hall.area(1), 1200);
        Hall both = Check.hallOf(h -> {
            h.order(10, 10, false, 2);
            h.sheet(20, 10);
            h.plan(0);
        });
        Check.same("a cut between two panes", both.score(0), 0);
        Check.same("panes", Story.panes(both, 0), "0 0 2");
        Check.same("sheets", both.total(0), 0);
    }

    /** "a rest that would wait is over". */
    private static void restsThatWouldWaitAreOver() {
        Hall hall = Check.hallOf(Scenes::scoredOnce);
        hall.score(0);
        hall.score(0);
        Check.same("states", Trees.states(hall, 0), "222222100");
        Check.same("waste", hall.area(3), 600);
    }

    /** "or, when the whole sheet is a pane, that is taken". */
    private static void aWholePaneIsTaken() {
        Hall hall = new CountedHall();
        hall.order(400, 300, false, 1);
        hall.sheet(400, 300);
        hall.plan(0);
        Check.same("score of a whole pane", hall.score(0), 0);
        Check.same("panes", Story.panes(hall, 0), "0 0 1");
        Check.same("area of done panes", hall.area(1), 120_000);
        Check.same("sheets", hall.total(0), 0);
        Check.same("offcuts", hall.total(3), 0);
    }

    /** "When nothing waits any more, the sheet is not there any more". */
    private static void theSheetGoesWhenNothingWaits() {
        Hall hall = Check.hallOf(Scenes::planned);
        for (int i = 0; i < 3; i++) {
            hall.score(0);
            Check.same("sheets while one piece waits", hall.total(0), 1);
        }
        hall.score(0);
        Check.same("sheets when nothing waits", hall.total(0), 0);
        Check.same("planned sheets", hall.total(1), 0);
        Check.same("score of what is gone", Check.outcome(hall, h -> h.score(0)), "throws NoSuchElementException");
        Check.same("nodes of what is gone", Check.outcome(hall, h -> h.nodes(0)), "throws NoSuchElementException");
    }

    private static void brokenPiecesAreNotCut() {
        Hall hall = Check.hallOf(Scenes::scoredOnce);
        hall.broke(0, 1);
        Check.same("the next cut", hall.score(0), 6);
        Check.same("sheets", hall.total(0), 0);
    }

    private static void sheetsAreCutOneByOne() {
        Hall hall = Check.hallOf(Scenes::planned);
        hall.order(10, 10, false, 2);
        hall.sheet(20, 11);
        hall.plan(1);
        Check.same("a cut of sheet 1", hall.score(1), 0);
        Check.same("states of sheet 0", Trees.states(hall, 0), "100000000");
        Check.same("a cut of sheet 0", hall.score(0), 0);
        Check.same("states of sheet 1", Trees.states(hall, 1), "2100100");
        Check.same("the next cut of sheet 1", hall.score(1), 1);
    }

    /** "IllegalState: it is not planned". */
    private static void notPlannedIsRefused() {
        Check.notPlanned("score", Hall::score);
    }

    private static void noSuchSheetIsRefused() {
        Check.noSuchSheet("score", Hall::score);
        Check.refused("score of a sheet that is cut up", h -> {
            Scenes.planned(h);
            for (int i = 0; i < 4; i++) {
                h.score(0);
            }
        }, Check.ELEMENT, h -> h.score(0));
    }
}
