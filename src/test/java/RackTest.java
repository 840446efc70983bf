import java.util.NoSuchElementException;

/** Promises 12 (use), 13 (rack) and 14 (fit). */
public final class RackTest {
    public static void main(String[] args) {
        largeRestsAreOffcuts();
        tenOffcutsAtMost();
        offcutsComeInTheOrderOfCuts();
        offcutsHaveTheirFlaws();
        offcutsAboveHaveTheirFlaws();
        offcutsBecomeSheets();
        useRefusesInOrder();
        rackRefusesInOrder();
        fitTakesTheLeastArea();
        Check.end();
    }

    /** Cuts one pane of 1 x 1 from a sheet of 1 more in width, so that all else is one offcut and waste. */
    private static void makeOffcut(GlassHall hall, int order, int w, int h) {
        int id = hall.sheet(w + 1, h);
        hall.exact(id, order, GlassHall.NONE, GlassHall.NONE);
        while (Check.outcome(() -> hall.score(id)).charAt(0) != 't') {
            continue;
        }
    }

    private static GlassHall hallWithOffcuts(int[]... sizes) {
        GlassHall hall = new GlassHall();
        hall.order(1, 1, false, 6);
        hall.order(1, 1, false, 6);
        for (int i = 0; i < sizes.length; i++) {
            makeOffcut(hall, i / 6, sizes[i][0], sizes[i][1]);
        }
        return hall;
    }

    private static void largeRestsAreOffcuts() {
        GlassHall hall = hallWithOffcuts(new int[][] {{300, 300}, {299, 500}, {500, 299}, {301, 400}});
        Check.same("offcuts", hall.total(3), 2);
        Check.same("width of offcut 0", hall.rack(0, 0), 300);
        Check.same("height of offcut 0", hall.rack(0, 1), 300);
        Check.same("flaws of offcut 0", hall.rack(0, 2), 0);
        Check.same("width of offcut 1", hall.rack(1, 0), 301);
        Check.same("height of offcut 1", hall.rack(1, 1), 400);
        Check.same("area of offcuts", hall.area(2), 300 * 300 + 301 * 400);
        Check.same("waste", hall.area(3), 299 * 500 + 500 * 299 + 299 + 499 + 298 + 399);
    }

    private static void tenOffcutsAtMost() {
        int[][] sizes = new int[11][];
        for (int i = 0; i < 11; i++) {
            sizes[i] = new int[] {300 + i, 300};
        }
        GlassHall hall = hallWithOffcuts(sizes);
        Check.same("offcuts", hall.total(3), 10);
        Check.same("width of the tenth", hall.rack(9, 0), 309);
        Check.same("waste", hall.area(3), 310 * 300 + 11 * 299);
        hall.use(0);
        makeOffcut(hall, 1, 700, 700);
        Check.same("offcuts after one was used", hall.total(3), 10);
        Check.same("width of the newest", hall.rack(9, 0), 700);
        for (int k = 0; k < 9; k++) {
            Check.same("width of offcut " + k, hall.rack(k, 0), 301 + k);
        }
    }

    private static void offcutsComeInTheOrderOfCuts() {
        GlassHall hall = new GlassHall();
        hall.order(400, 100, false, 1);
        hall.sheet(900, 500);
        hall.plan(0);
        Check.same("the cut of the column", hall.score(0), 0);
        Check.same("the column's rest is not there yet", hall.rack(0, 0), 500);
        Check.same("the cut of the row", hall.score(0), 1);
        Check.same("the rest of the column comes second", hall.rack(1, 1), 400);
    }

    private static void offcutsHaveTheirFlaws() {
        GlassHall hall = new GlassHall();
        hall.order(100, 100, false, 1);
        hall.sheet(500, 500);
        hall.flaw(0, 90, 300, 30, 20);
        hall.flaw(0, 0, 200, 100, 50);
        hall.flaw(0, 480, 490, 20, 10);
        hall.flaw(0, 50, 150, 450, 350);
        hall.flaw(0, 100, 0, 1, 1);
        Check.same("plan clear of the flaws", hall.plan(0), 1);
        hall.score(0);
        Check.same("flaws of the offcut", hall.rack(0, 2), 4);
        Check.same("id", hall.use(0), 1);
        Check.same("flaw cut at the left", flawOf(hall, 1, 0), "0 300 20 20");
        Check.same("flaw wholly in it", flawOf(hall, 1, 1), "380 490 20 10");
        Check.same("flaw over its edge", flawOf(hall, 1, 2), "0 150 400 350");
        Check.same("flaw in its corner", flawOf(hall, 1, 3), "0 0 1 1");
        Check.refuses("flaw beyond its edge", IndexOutOfBoundsException.class, () -> hall.flawed(1, 4, 0));
        Check.same("a flaw more", hall.flaw(1, 5, 5, 5, 5), 5);
    }

    private static void offcutsAboveHaveTheirFlaws() {
        GlassHall hall = new GlassHall();
        hall.order(700, 310, false, 1);
        hall.order(350, 300, false, 1);
        hall.sheet(700, 1000);
        hall.flaw(0, 400, 560, 10, 50);
        hall.flaw(0, 400, 610, 20, 30);
        hall.flaw(0, 500, 590, 10, 40);
        hall.flaw(0, 690, 990, 10, 10);
        hall.plan(0);
        for (int i = 0; i < 3; i++) {
            hall.score(0);
        }
        Check.same("flaws of the rest above", hall.rack(0, 2), 3);
        Check.same("flaws of the rest beside", hall.rack(1, 2), 2);
        hall.use(0);
        hall.use(0);
        Check.same("flaw that begins at the lower edge", flawOf(hall, 1, 0), "400 0 20 30");
        Check.same("flaw cut at the lower edge", flawOf(hall, 1, 1), "500 0 10 20");
        Check.same("flaw in the upper corner", flawOf(hall, 1, 2), "690 380 10 10");
        Check.same("flaw that ends at the upper edge", flawOf(hall, 2, 0), "50 250 10 50");
        Check.same("flaw cut at the upper edge", flawOf(hall, 2, 1), "150 280 10 20");
    }

    private static String flawOf(GlassHall hall, int id, int k) {
        return hall.flawed(id, k, 0) + " " + hall.flawed(id, k, 1) + " " + hall.flawed(id, k, 2) + " "
                + hall.flawed(id, k, 3);
    }

    private static void offcutsBecomeSheets() {
        GlassHall hall = hallWithOffcuts(new int[][] {{300, 301}, {310, 311}, {320, 321}});
        Check.same("id", hall.use(1), 3);
        Check.same("sheets", hall.total(0), 1);
        Check.same("area of sheets", hall.area(0), 310 * 311);
        Check.same("area of offcuts", hall.area(2), 300 * 301 + 320 * 321);
        Check.same("area made", hall.area(6), 301 * 301 + 311 * 311 + 321 * 321);
        Check.same("width of offcut 0", hall.rack(0, 0), 300);
        Check.same("width of offcut 1", hall.rack(1, 0), 320);
        Check.refuses("offcut 2 is gone", NoSuchElementException.class, () -> hall.rack(2, 0));
        hall.order(310, 311, false, 1);
        Check.same("the offcut is planned", hall.plan(3), 1);
        Check.same("nodes", hall.nodes(3), 1);
        Check.same("id of the last one", hall.use(1), 4);
        Check.same("id of a new sheet", hall.sheet(5, 5), 5);
    }

    private static void useRefusesInOrder() {
        GlassHall hall = hallWithOffcuts(new int[][] {{300, 300}});
        for (int i = 0; i < 8; i++) {
            hall.sheet(10, 10);
        }
        Check.refuses("no offcut", NoSuchElementException.class, () -> hall.use(1));
        Check.refuses("a negative offcut", NoSuchElementException.class, () -> hall.use(-1));
        Check.refuses("no room", IllegalStateException.class, () -> hall.use(0));
        Check.same("offcuts", hall.total(3), 1);
        Check.same("sheets ever", hall.total(4), 9);
    }

    private static void rackRefusesInOrder() {
        GlassHall hall = hallWithOffcuts(new int[][] {{300, 300}});
        Check.refuses("no offcut", NoSuchElementException.class, () -> hall.rack(1, 9));
        Check.refuses("a negative offcut", NoSuchElementException.class, () -> hall.rack(-1, 0));
        Check.refuses("another what", IllegalArgumentException.class, () -> hall.rack(0, 3));
        Check.refuses("a negative what", IllegalArgumentException.class, () -> hall.rack(0, -1));
    }

    private static void fitTakesTheLeastArea() {
        GlassHall hall = hallWithOffcuts(new int[][] {{800, 600}, {400, 900}, {300, 1200}, {600, 600}, {310, 310}});
        Check.same("the least", hall.fit(300, 300), 4);
        Check.same("zero", hall.fit(0, 0), 4);
        Check.same("negative", hall.fit(Integer.MIN_VALUE, -1), 4);
        Check.same("of the same area the first", hall.fit(300, 550), 1);
        Check.same("turned", hall.fit(1200, 300), 2);
        Check.same("turned, exactly", hall.fit(900, 400), 1);
        Check.same("as it is, exactly", hall.fit(800, 600), 0);
        Check.same("wide and high", hall.fit(600, 500), 3);
        Check.same("too wide", hall.fit(1201, 300), GlassHall.NONE);
        Check.same("too high when turned", hall.fit(900, 401), GlassHall.NONE);
        Check.same("by far too large", hall.fit(Integer.MAX_VALUE, 1), GlassHall.NONE);
        hall.use(1);
        Check.same("numbers after use", hall.fit(300, 550), 1);
    }
}
