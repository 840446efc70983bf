import java.util.NoSuchElementException;

/** Promises 4 (order) and 16 (panes). */
public final class OrderTest {
    public static void main(String[] args) {
        ordersHaveLimits();
        sixOrdersAtMost();
        panesMoveFromOpenToDone();
        panesOpenAgain();
        panesRefusesInOrder();
        Check.end();
    }

    private static void ordersHaveLimits() {
        GlassHall hall = new GlassHall();
        int[][] wrong = {
            {0, 5, 1}, {5, 0, 1}, {6001, 5, 1}, {5, 6001, 1}, {-3, 5, 1}, {5, -3, 1}, {5, 5, 0}, {5, 5, 7}, {5, 5, -1},
            {5, 5, Integer.MAX_VALUE}, {Integer.MIN_VALUE, 5, 1},
        };
        for (int[] o : wrong) {
            Check.refuses("order " + o[0] + ", " + o[1] + ", " + o[2], IllegalArgumentException.class,
                    () -> hall.order(o[0], o[1], true, o[2]));
        }
        Check.same("orders after refused ones", hall.total(2), 0);
        Check.same("the largest panes", hall.order(6000, 6000, false, 6), 0);
        Check.same("the smallest panes", hall.order(1, 1, true, 1), 1);
        Check.same("open panes of order 0", hall.panes(0, 0), 6);
        Check.same("open panes of order 1", hall.panes(1, 0), 1);
    }

    private static void sixOrdersAtMost() {
        GlassHall hall = new GlassHall();
        for (int i = 0; i < 6; i++) {
            Check.same("number", hall.order(10, 10, false, 1), i);
        }
        Check.refuses("a seventh order", IllegalStateException.class, () -> hall.order(10, 10, false, 1));
        Check.refuses("a wrong seventh order", IllegalArgumentException.class, () -> hall.order(10, 10, false, 0));
        Check.same("orders", hall.total(2), 6);
        hall.sheet(100, 10);
        hall.plan(0);
        for (int i = 0; i < 6; i++) {
            hall.score(0);
        }
        Check.same("done panes of the last order", hall.panes(5, 2), 1);
        Check.refuses("an order more when all are done", IllegalStateException.class,
                () -> hall.order(10, 10, false, 1));
    }

    private static void panesMoveFromOpenToDone() {
        GlassHall hall = new GlassHall();
        hall.order(40, 10, false, 5);
        hall.sheet(100, 10);
        hall.plan(0);
        tellsPanes(hall, "planned", 3, 2, 0);
        hall.score(0);
        tellsPanes(hall, "scored once", 3, 1, 1);
        hall.score(0);
        tellsPanes(hall, "scored twice", 3, 0, 2);
    }

    private static void panesOpenAgain() {
        GlassHall hall = new GlassHall();
        hall.order(40, 10, false, 5);
        hall.sheet(100, 10);
        hall.plan(0);
        hall.cancel(0);
        tellsPanes(hall, "cancelled", 5, 0, 0);
        hall.plan(0);
        hall.score(0);
        hall.broke(0, 2);
        tellsPanes(hall, "broken", 4, 0, 1);
    }

    private static void tellsPanes(GlassHall hall, String when, int open, int planned, int done) {
        Check.same("open panes when " + when, hall.panes(0, 0), open);
        Check.same("planned panes when " + when, hall.panes(0, 1), planned);
        Check.same("done panes when " + when, hall.panes(0, 2), done);
    }

    private static void panesRefusesInOrder() {
        GlassHall hall = new GlassHall();
        hall.order(40, 10, false, 5);
        Check.refuses("no order", NoSuchElementException.class, () -> hall.panes(1, 9));
        Check.refuses("a negative order", NoSuchElementException.class, () -> hall.panes(-1, 0));
        Check.refuses("order 6", NoSuchElementException.class, () -> hall.panes(6, 0));
        Check.refuses("another what", IllegalArgumentException.class, () -> hall.panes(0, 3));
        Check.refuses("a negative what", IllegalArgumentException.class, () -> hall.panes(0, -1));
    }
}
