/** Promise 18, total. */
public final class TotalTest {
    public static void main(String[] args) {
        sheetsAreCounted();
        plannedSheetsAreCounted();
        ordersAreCounted();
        offcutsAreCounted();
        sheetsEverAreCounted();
        anotherWhatIsNone();
        changesNothing();
        Check.end();
    }

    private static void sheetsAreCounted() {
        Hall hall = new CountedHall();
        for (int i = 0; i <= 8; i++) {
            Check.same("sheets", hall.total(0), i);
            Check.outcome(hall, h -> h.sheet(10, 10));
        }
        Check.same("sheets after a ninth was refused", hall.total(0), 8);
        hall.order(10, 10, false, 1);
        hall.plan(5);
        Check.same("sheets with a planned one", hall.total(0), 8);
        hall.score(5);
        Check.same("sheets when one is gone", hall.total(0), 7);
    }

    /** "how many of these are planned (1)": none to all eight. */
    private static void plannedSheetsAreCounted() {
        Hall hall = Check.hallOf(h -> Scenes.sheets(h, 8));
        hall.order(10, 5, false, 6);
        hall.order(10, 5, false, 6);
        for (int i = 0; i < 8; i++) {
            Check.same("planned sheets", hall.total(1), i);
            hall.exact(i, i / 6, Hall.NONE, Hall.NONE);
        }
        Check.same("planned sheets", hall.total(1), 8);
        hall.cancel(0);
        Check.same("planned sheets after cancel", hall.total(1), 7);
        hall.score(1);
        Check.same("planned sheets when one is cut up", hall.total(1), 6);
        hall.broke(2, 0);
        Check.same("planned sheets when one broke", hall.total(1), 5);
        Check.same("a plan without a pane", Check.hallOf(h -> h.sheet(1, 1)).plan(0), 0);
        Hall cut = Check.hallOf(Scenes::scoredOnce);
        Check.same("a sheet that is cut is planned", cut.total(1), 1);
    }

    private static void ordersAreCounted() {
        Hall hall = new CountedHall();
        for (int i = 0; i <= 6; i++) {
            Check.same("orders", hall.total(2), i);
            Check.outcome(hall, h -> h.order(10, 10, false, 1));
        }
        Check.same("orders after a seventh was refused", hall.total(2), 6);
    }

    private static void offcutsAreCounted() {
        Hall hall = Check.hallOf(h -> h.order(1, 1, false, 1));
        for (int i = 0; i <= 10; i++) {
            Check.same("offcuts", hall.total(3), i);
            Scenes.offcut(hall, 0, 300, 300);
        }
        Check.same("offcuts after an eleventh", hall.total(3), 10);
        hall.use(0);
        Check.same("offcuts after one is used", hall.total(3), 9);
    }

    /** "sheets ever, with those made of offcuts (4)". */
    private static void sheetsEverAreCounted() {
        Hall hall = Check.hallOf(h -> Scenes.offcuts(h, 10));
        Check.same("sheets ever, when all are gone", hall.total(4), 10);
        hall.use(0);
        Check.same("sheets ever with one of an offcut", hall.total(4), 11);
        Scenes.sheets(hall, 7);
        Check.same("sheets ever with seven more", hall.total(4), 18);
        Check.outcome(hall, h -> h.sheet(10, 10));
        Check.outcome(hall, h -> h.use(0));
        Check.same("sheets ever after refused ones", hall.total(4), 18);
    }

    /** "NONE for another what". */
    private static void anotherWhatIsNone() {
        Hall hall = Check.hallOf(Scenes::planned);
        for (int what : new int[] {-1, 5, 6, Check.MIN, Check.MAX}) {
            Check.same("total(" + what + ")", hall.total(what), Hall.NONE);
        }
    }

    private static void changesNothing() {
        for (int what = -1; what <= 5; what++) {
            int asked = what;
            long due = new int[] {Hall.NONE, 1, 1, 1, 0, 1, Hall.NONE}[what + 1];
            Check.leavesAll("total(" + what + ")", Scenes::planned, h -> h.total(asked), due);
        }
    }
}
