/** What the tests share: answers and exceptions that are due, and how a test ends. */
final class Check {
    /** The calls that bring a new hall to where a test begins; the same each time. */
    interface Scene {
        void set(Hall hall);
    }

    interface Call {
        long answer(Hall hall);
    }

    interface SheetCall {
        long answer(Hall hall, int id);
    }

    static final int MIN = Integer.MIN_VALUE;
    static final int MAX = Integer.MAX_VALUE;

    static final Class<IllegalArgumentException> ARGUMENT = IllegalArgumentException.class;
    static final Class<IllegalStateException> STATE = IllegalStateException.class;
    static final Class<IndexOutOfBoundsException> INDEX = IndexOutOfBoundsException.class;
    static final Class<java.util.NoSuchElementException> ELEMENT = java.util.NoSuchElementException.class;

    private static int wrong;

    private Check() {
    }

    static Hall hallOf(Scene scene) {
        Hall hall = new CountedHall();
        scene.set(hall);
        return hall;
    }

    static void same(String what, long got, long want) {
        if (got != want) {
            tell(what + " answered " + got + ", due is " + want);
        }
    }

    static void same(String what, String got, String want) {
        if (!got.equals(want)) {
            tell(what + " answered " + got + ", due is " + want);
        }
    }

    /** The call throws just that, and the hall is as one of the same scene where it was not made. */
    static void refused(String what, Scene scene, Class<? extends RuntimeException> want, Call call) {
        leavesAll(what, scene, call, "throws " + want.getSimpleName());
    }

    /** The call answers that, and the hall is as one of the same scene where it was not made. */
    static void leavesAll(String what, Scene scene, Call call, long want) {
        leavesAll(what, scene, call, Long.toString(want));
    }

    private static void leavesAll(String what, Scene scene, Call call, String want) {
        Hall hall = hallOf(scene);
        same(what, outcome(hall, call), want);
        same("all of the hall after " + what, Story.of(hall), Story.of(hallOf(scene)));
    }

    /** "NoSuchElement: there is no such sheet": one that is gone, one that is to come, and ids that never are. */
    static void noSuchSheet(String what, SheetCall call) {
        for (int id : new int[] {-1, 0, 3, 8, MIN, MAX}) {
            refused(what + " of sheet " + id, Scenes::oneGoneOnePlannedOneBlank, ELEMENT,
                    hall -> call.answer(hall, id));
        }
    }

    /** "IllegalState: it is not planned": never, not any more, or not by a plan that found no pane. */
    static void notPlanned(String what, SheetCall call) {
        refused(what + " of a sheet that is not planned", Scenes::oneGoneOnePlannedOneBlank, STATE,
                hall -> call.answer(hall, 2));
        refused(what + " of a sheet that was cancelled", hall -> {
            Scenes.planned(hall);
            hall.cancel(0);
        }, STATE, hall -> call.answer(hall, 0));
        refused(what + " of a sheet that had no pane", hall -> {
            hall.sheet(10, 10);
            hall.plan(0);
        }, STATE, hall -> call.answer(hall, 0));
    }

    /** The answer of a call as a text, or the exception that it throws. */
    static String outcome(Hall hall, Call call) {
        try {
            return Long.toString(call.answer(hall));
        } catch (RuntimeException e) {
            return "throws " + e.getClass().getSimpleName();
        }
    }

    static void tell(String text) {
        wrong++;
        System.out.println(text);
    }

    static boolean allIsAsDue() {
        return wrong == 0;
    }

    static void end() {
        System.out.println(wrong == 0 ? "all is as due" : wrong + " faults");
        if (wrong != 0) {
            System.exit(1);
        }
    }
}
