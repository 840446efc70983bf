/** "An object is used for at most 512 calls after it has been made": the 512th is answered as the first. */
public final class CallsTest {
    public static void main(String[] args) {
        sheetsThatBreakToTheLastCall();
        plansAndCancelsToTheLastCall();
        refusedCallsToTheLastCall();
        plansThatFindNoneToTheLastCall();
        Check.end();
    }

    private static void sheetsThatBreakToTheLastCall() {
        CountedHall hall = new CountedHall();
        hall.order(6000, 6000, true, 6);
        for (int i = 0; i < 170; i++) {
            Check.same("id", hall.sheet(6000, 6000), i);
            Check.same("panes", hall.plan(i), 1);
            Check.same("panes that are open again", hall.broke(i, 0), 1);
        }
        Check.same("broken area", hall.area(4), 170 * 36_000_000L);
        Check.same("calls left", hall.callsLeft(), 0);
    }

    private static void plansAndCancelsToTheLastCall() {
        CountedHall hall = new CountedHall();
        hall.order(10, 10, false, 6);
        hall.sheet(25, 25);
        for (int i = 0; i < 255; i++) {
            Check.same("panes of a plan", hall.plan(0), 4);
            Check.same("panes that are open again", hall.cancel(0), 4);
        }
        Check.same("calls left", hall.callsLeft(), 0);
    }

    private static void refusedCallsToTheLastCall() {
        CountedHall hall = new CountedHall();
        for (int i = 0; i < 504; i++) {
            Check.same("a sheet of nothing", Check.outcome(hall, h -> h.sheet(0, 10)),
                    "throws IllegalArgumentException");
        }
        for (int i = 0; i < 8; i++) {
            Check.same("id", hall.sheet(10, 10), i);
        }
        Check.same("calls left", hall.callsLeft(), 0);
    }

    private static void plansThatFindNoneToTheLastCall() {
        CountedHall hall = new CountedHall();
        hall.order(11, 1, false, 6);
        hall.sheet(10, 10);
        for (int i = 0; i < 254; i++) {
            Check.same("plan of too wide a pane", hall.plan(0), 0);
            Check.same("exact of too wide a pane", hall.exact(0, 0, 0, 0), 0);
        }
        Check.same("a flaw", hall.flaw(0, 9, 9, 1, 1), 1);
        Check.same("area of sheets", hall.area(0), 100);
        Check.same("calls left", hall.callsLeft(), 0);
    }
}
