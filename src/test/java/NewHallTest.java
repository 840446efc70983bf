import java.util.NoSuchElementException;

/** Promise 1 (a new object) and promise 18 (total). */
public final class NewHallTest {
    public static void main(String[] args) {
        isEmptyAtFirst();
        countsWhatIsThere();
        hallsAreApart();
        Check.end();
    }

    private static void isEmptyAtFirst() {
        GlassHall hall = new GlassHall();
        for (int what = 0; what <= 4; what++) {
            Check.same("total of a new hall", hall.total(what), 0);
        }
        for (int kind = -1; kind <= 7; kind++) {
            Check.same("area of a new hall", hall.area(kind), 0);
        }
        Check.same("fit in an empty rack", hall.fit(1, 1), GlassHall.NONE);
        Check.refuses("plan in a new hall", NoSuchElementException.class, () -> hall.plan(0));
        Check.refuses("panes in a new hall", NoSuchElementException.class, () -> hall.panes(0, 0));
        Check.refuses("rack in a new hall", NoSuchElementException.class, () -> hall.rack(0, 0));
        Check.refuses("use in a new hall", NoSuchElementException.class, () -> hall.use(0));
        Check.same("NONE", GlassHall.NONE, -1);
    }

    private static void countsWhatIsThere() {
        GlassHall hall = new GlassHall();
        hall.sheet(1000, 500);
        hall.sheet(10, 10);
        hall.order(500, 500, false, 1);
        hall.plan(0);
        Check.same("sheets", hall.total(0), 2);
        Check.same("planned sheets", hall.total(1), 1);
        Check.same("orders", hall.total(2), 1);
        Check.same("offcuts before the cut", hall.total(3), 0);
        Check.same("sheets ever", hall.total(4), 2);
        hall.score(0);
        Check.same("sheets after the cut", hall.total(0), 1);
        Check.same("planned sheets after the cut", hall.total(1), 0);
        Check.same("offcuts after the cut", hall.total(3), 1);
        Check.same("sheets ever after the cut", hall.total(4), 2);
        hall.use(0);
        Check.same("sheets after use", hall.total(0), 2);
        Check.same("offcuts after use", hall.total(3), 0);
        Check.same("sheets ever after use", hall.total(4), 3);
        Check.same("total of another what", hall.total(5), GlassHall.NONE);
        Check.same("total of a negative what", hall.total(-1), GlassHall.NONE);
    }

    private static void hallsAreApart() {
        GlassHall one = new GlassHall();
        GlassHall other = new GlassHall();
        one.sheet(10, 10);
        one.order(5, 5, false, 1);
        Check.same("sheets of the other hall", other.total(0), 0);
        Check.same("orders of the other hall", other.total(2), 0);
    }
}
