import java.util.NoSuchElementException;

/** Promises 2 (sheet), 3 (flaw) and 15 (flawed). */
public final class SheetTest {
    private static final int MAX = Integer.MAX_VALUE;
    private static final int MIN = Integer.MIN_VALUE;

    public static void main(String[] args) {
        sheetsHaveLimits();
        eightSheetsAtATime();
        idsAreNeverGivenTwice();
        flawsAreTold();
        flawsLieWhollyInTheSheet();
        sixFlawsAtMost();
        plannedSheetsTakeNoFlaw();
        newSheetsHaveNoFlaws();
        flawRefusesInOrder();
        flawedRefusesInOrder();
        Check.end();
    }

    private static void sheetsHaveLimits() {
        GlassHall hall = new GlassHall();
        int[][] wrong = {{0, 5}, {5, 0}, {-1, 5}, {5, -1}, {6001, 5}, {5, 6001}, {MAX, MAX}, {MIN, MIN}};
        for (int[] size : wrong) {
            Check.refuses("sheet of " + size[0] + " x " + size[1], IllegalArgumentException.class,
                    () -> hall.sheet(size[0], size[1]));
        }
        Check.same("sheets after refused ones", hall.total(4), 0);
        Check.same("the largest sheet", hall.sheet(6000, 6000), 0);
        Check.same("the smallest sheet", hall.sheet(1, 1), 1);
        Check.same("the narrowest sheet", hall.sheet(1, 6000), 2);
        Check.same("area of sheets", hall.area(0), 36_000_000L + 1 + 6000);
    }

    private static void eightSheetsAtATime() {
        GlassHall hall = new GlassHall();
        for (int i = 0; i < 8; i++) {
            Check.same("id", hall.sheet(10, 10), i);
        }
        Check.refuses("a ninth sheet", IllegalStateException.class, () -> hall.sheet(10, 10));
        Check.refuses("a ninth sheet of a wrong size", IllegalArgumentException.class, () -> hall.sheet(0, 10));
        Check.same("sheets ever", hall.total(4), 8);
        Check.same("area made", hall.area(6), 800);
    }

    private static void idsAreNeverGivenTwice() {
        GlassHall hall = new GlassHall();
        hall.order(10, 10, false, 6);
        for (int i = 0; i < 6; i++) {
            Check.same("id", hall.sheet(10, 10), i);
            hall.plan(i);
            hall.score(i);
        }
        Check.same("sheets there", hall.total(0), 0);
        Check.same("id after six are gone", hall.sheet(10, 10), 6);
        Check.refuses("a sheet that is gone", NoSuchElementException.class, () -> hall.plan(5));
    }

    private static void flawsAreTold() {
        GlassHall hall = new GlassHall();
        hall.sheet(5, 5);
        int id = hall.sheet(100, 200);
        Check.same("first flaw", hall.flaw(id, 10, 20, 30, 40), 1);
        Check.same("flaw of the whole sheet", hall.flaw(id, 0, 0, 100, 200), 2);
        for (int what = 0; what < 4; what++) {
            Check.same("flaw 0, what " + what, hall.flawed(id, 0, what), 10 * (what + 1));
        }
        Check.same("width of flaw 1", hall.flawed(id, 1, 2), 100);
        Check.same("height of flaw 1", hall.flawed(id, 1, 3), 200);
        Check.refuses("flaw of the other sheet", IndexOutOfBoundsException.class, () -> hall.flawed(0, 0, 0));
    }

    private static void flawsLieWhollyInTheSheet() {
        GlassHall hall = new GlassHall();
        hall.sheet(100, 200);
        int[][] wrong = {
            {0, 0, 0, 5}, {0, 0, 5, 0}, {0, 0, -1, 5}, {-1, 0, 5, 5}, {0, -1, 5, 5}, {96, 0, 5, 5}, {0, 196, 5, 5},
            {100, 0, 1, 1}, {0, 200, 1, 1}, {0, 0, 101, 1}, {0, 0, 1, 201}, {MAX, 0, MAX, 5}, {0, MAX, 5, MAX},
            {1, 1, MAX, MAX}, {MIN, MIN, MAX, MAX}, {MIN, 0, 1, 1}, {5, 5, MIN, MIN},
        };
        for (int[] f : wrong) {
            Check.refuses("flaw " + f[0] + ", " + f[1] + ", " + f[2] + ", " + f[3], IllegalArgumentException.class,
                    () -> hall.flaw(0, f[0], f[1], f[2], f[3]));
        }
        Check.same("flaw in the upper right corner", hall.flaw(0, 95, 195, 5, 5), 1);
        Check.same("flaw in the lower left corner", hall.flaw(0, 0, 0, 1, 1), 2);
    }

    private static void sixFlawsAtMost() {
        GlassHall hall = new GlassHall();
        hall.sheet(100, 100);
        for (int k = 0; k < 6; k++) {
            Check.same("flaws", hall.flaw(0, k, k, 2, 2), k + 1);
        }
        Check.refuses("a seventh flaw", IllegalStateException.class, () -> hall.flaw(0, 0, 0, 1, 1));
        Check.same("x of the last flaw", hall.flawed(0, 5, 0), 5);
        Check.refuses("flaw 6", IndexOutOfBoundsException.class, () -> hall.flawed(0, 6, 0));
    }

    private static void plannedSheetsTakeNoFlaw() {
        GlassHall hall = new GlassHall();
        hall.sheet(100, 100);
        hall.flaw(0, 90, 90, 5, 5);
        hall.order(10, 10, false, 1);
        hall.plan(0);
        Check.refuses("flaw of a planned sheet", IllegalStateException.class, () -> hall.flaw(0, 0, 0, 1, 1));
        Check.same("flaw of a planned sheet is told", hall.flawed(0, 0, 0), 90);
        hall.cancel(0);
        Check.same("flaw after cancel", hall.flaw(0, 0, 0, 1, 1), 2);
    }

    private static void newSheetsHaveNoFlaws() {
        GlassHall hall = new GlassHall();
        hall.order(10, 10, false, 1);
        hall.sheet(100, 100);
        hall.flaw(0, 90, 90, 5, 5);
        hall.plan(0);
        hall.broke(0, 0);
        int id = hall.sheet(100, 100);
        Check.refuses("a flaw of a sheet that is gone", IndexOutOfBoundsException.class, () -> hall.flawed(id, 0, 0));
        Check.same("the first flaw", hall.flaw(id, 1, 1, 1, 1), 1);
    }

    private static void flawRefusesInOrder() {
        GlassHall hall = new GlassHall();
        hall.sheet(100, 100);
        hall.order(10, 10, false, 1);
        hall.plan(0);
        Check.refuses("no sheet, wrong flaw", NoSuchElementException.class, () -> hall.flaw(1, 0, 0, 0, 0));
        Check.refuses("a negative id", NoSuchElementException.class, () -> hall.flaw(-1, 0, 0, 1, 1));
        Check.refuses("planned, wrong flaw", IllegalArgumentException.class, () -> hall.flaw(0, 0, 0, 0, 0));
    }

    private static void flawedRefusesInOrder() {
        GlassHall hall = new GlassHall();
        hall.sheet(100, 100);
        hall.flaw(0, 0, 0, 1, 1);
        Check.refuses("no sheet", NoSuchElementException.class, () -> hall.flawed(1, 9, 9));
        Check.refuses("no flaw", IndexOutOfBoundsException.class, () -> hall.flawed(0, 1, 9));
        Check.refuses("a negative flaw", IndexOutOfBoundsException.class, () -> hall.flawed(0, -1, 0));
        Check.refuses("another what", IllegalArgumentException.class, () -> hall.flawed(0, 0, 4));
        Check.refuses("a negative what", IllegalArgumentException.class, () -> hall.flawed(0, 0, -1));
    }
}
