/** Promise 17 (area). */
public final class AreaTest {
    public static void main(String[] args) {
        everyKindIsTold();
        areasAreLong();
        otherKindsAreZero();
        Check.end();
    }

    private static void everyKindIsTold() {
        GlassHall hall = new GlassHall();
        hall.order(400, 300, false, 2);
        hall.sheet(1000, 700);
        hall.sheet(50, 50);
        tells(hall, "made", 702_500, 0, 0, 0, 0, 0, 702_500);
        hall.plan(0);
        tells(hall, "planned", 2_500, 0, 0, 0, 0, 700_000, 702_500);
        hall.score(0);
        tells(hall, "scored", 2_500, 0, 420_000, 0, 0, 280_000, 702_500);
        hall.score(0);
        tells(hall, "scored twice", 2_500, 120_000, 420_000, 0, 0, 160_000, 702_500);
        hall.score(0);
        tells(hall, "scored to the end", 2_500, 240_000, 420_000, 40_000, 0, 0, 702_500);
        hall.use(0);
        tells(hall, "used", 422_500, 240_000, 0, 40_000, 0, 0, 702_500);
        hall.order(600, 700, false, 1);
        hall.plan(2);
        hall.broke(2, 0);
        tells(hall, "broken", 2_500, 240_000, 0, 40_000, 420_000, 0, 702_500);
    }

    private static void tells(GlassHall hall, String when, long... areas) {
        for (int kind = 0; kind <= 6; kind++) {
            Check.same("area(" + kind + ") when " + when, hall.area(kind), areas[kind]);
        }
    }

    private static void areasAreLong() {
        GlassHall hall = new GlassHall();
        hall.order(6000, 6000, false, 6);
        for (int i = 0; i < 100; i++) {
            hall.sheet(6000, 6000);
            hall.plan(i);
            hall.broke(i, 0);
        }
        Check.same("broken area", hall.area(4), 3_600_000_000L);
        Check.same("area made", hall.area(6), 3_600_000_000L);
    }

    private static void otherKindsAreZero() {
        GlassHall hall = new GlassHall();
        hall.sheet(10, 10);
        Check.same("kind 7", hall.area(7), 0);
        Check.same("kind -1", hall.area(-1), 0);
        Check.same("the least kind", hall.area(Integer.MIN_VALUE), 0);
        Check.same("the greatest kind", hall.area(Integer.MAX_VALUE), 0);
    }
}
