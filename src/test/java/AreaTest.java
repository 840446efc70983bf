/** Promise 17, area. */
public final class AreaTest {
    private static final int NONE = Hall.NONE;

    public static void main(String[] args) {
        everyKindIsTold();
        allKindsTogetherAreWhatWasMade();
        anotherKindIs0();
        madeAndBrokenAreasAreLong();
        wasteIsLong();
        plansThatFindNoneLeaveAreas();
        sheetsOfOffcutsAreNotMadeTwice();
        brokenPiecesAreCountedOnce();
        Check.end();
    }

    private static void tells(Hall hall, String when, long... areas) {
        for (int kind = 0; kind <= 6; kind++) {
            Check.same("area(" + kind + ") when " + when, hall.area(kind), areas[kind]);
        }
    }

    private static void everyKindIsTold() {
        Hall hall = new CountedHall();
        hall.order(400, 300, false, 2);
        hall.sheet(1000, 700);
        hall.sheet(50, 50);
        tells(hall, "made", 702_500, 0, 0, 0, 0, 0, 702_500);
        hall.plan(0);
        tells(hall, "planned", 2_500, 0, 0, 0, 0, 700_000, 702_500);
        hall.score(0);
        tells(hall, "scored", 2_500, 0, 420_000, 0, 0, 280_000, 702_500);
        hall.score(0);
        tells(hall, "scored twice", 2_500, 120_000, 420_000, 0, 0, 160_000, 702_500);
        hall.score(0);
        tells(hall, "scored to the end", 2_500, 240_000, 420_000, 40_000, 0, 0, 702_500);
        hall.use(0);
        tells(hall, "used", 422_500, 240_000, 0, 40_000, 0, 0, 702_500);
        hall.order(600, 700, false, 1);
        hall.plan(2);
        tells(hall, "planned again", 2_500, 240_000, 0, 40_000, 0, 420_000, 702_500);
        hall.cancel(2);
        tells(hall, "cancelled", 422_500, 240_000, 0, 40_000, 0, 0, 702_500);
        hall.plan(2);
        hall.broke(2, 0);
        tells(hall, "broken", 2_500, 240_000, 0, 40_000, 420_000, 0, 702_500);
    }

    /** "an account of every square millimetre". */
    private static void allKindsTogetherAreWhatWasMade() {
        Hall hall = Check.hallOf(h -> Scenes.offcuts(h, 3));
        hall.order(400, 301, false, 3);
        for (int i = 0; i < 4; i++) {
            int id = hall.sheet(811 + i, 907 + i);
            hall.plan(id);
            hall.score(id);
            hall.score(id);
            Check.outcome(hall, h -> h.broke(id, 3));
            long sum = 0;
            for (int kind = 0; kind <= 5; kind++) {
                sum += hall.area(kind);
            }
            Check.same("all areas together", sum, hall.area(6));
        }
    }

    /** "0 for another kind". */
    private static void anotherKindIs0() {
        Hall hall = Check.hallOf(Scenes::planned);
        for (int kind : new int[] {-1, 7, 8, Check.MIN, Check.MAX}) {
            Check.same("area(" + kind + ")", hall.area(kind), 0);
        }
    }

    /** The most that 512 calls can make and break is more than an int holds. */
    private static void madeAndBrokenAreasAreLong() {
        Hall hall = new CountedHall();
        hall.order(6000, 6000, false, 1);
        for (int i = 0; i < 169; i++) {
            hall.sheet(6000, 6000);
            hall.plan(i);
            hall.broke(i, 0);
        }
        Check.same("broken area", hall.area(4), 169 * 36_000_000L);
        Check.same("area made", hall.area(6), 169 * 36_000_000L);
    }

    /** Beside a rack that is full the waste is more than an int holds. */
    private static void wasteIsLong() {
        Hall hall = Check.hallOf(h -> Scenes.offcuts(h, 10));
        for (int i = 0; i < 117; i++) {
            Scenes.offcut(hall, 0, 5999, 6000);
        }
        Check.same("waste", hall.area(3), 117 * 35_994_000L);
    }

    private static void plansThatFindNoneLeaveAreas() {
        Check.leavesAll("plan that finds none", h -> h.sheet(10, 10), h -> h.plan(0), 0);
        Check.leavesAll("exact that finds none", h -> {
            h.sheet(10, 10);
            h.order(11, 10, false, 1);
        }, h -> h.exact(0, 0, NONE, NONE), 0);
    }

    /** "of all sheets that were ever made by sheet()": not of those that were offcuts, but of those that are gone. */
    private static void sheetsOfOffcutsAreNotMadeTwice() {
        Hall hall = Check.hallOf(h -> Scenes.offcuts(h, 1));
        Check.same("made, when it is gone", hall.area(6), 301 * 300);
        hall.use(0);
        Check.same("made, when the offcut is a sheet", hall.area(6), 301 * 300);
        Check.same("sheets that are not planned", hall.area(0), 300 * 300);
    }

    private static void brokenPiecesAreCountedOnce() {
        Hall hall = Check.hallOf(Scenes::scoredOnce);
        hall.broke(0, 1);
        Check.same("broken", hall.area(4), 3000);
        Check.same("waits", hall.area(5), 3000);
        hall.broke(0, 6);
        Check.same("broken", hall.area(4), 6000);
        Check.same("waits", hall.area(5), 0);
    }
}
