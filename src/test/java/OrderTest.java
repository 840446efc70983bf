/** Promise 4, order, and what the terms say of orders. */
public final class OrderTest {
    private static final int[] LENGTHS = {1, 2, 5999, 6000};
    private static final int[] NO_LENGTHS = {0, -1, 6001, 65537, Check.MIN, Check.MAX};
    private static final int[] NO_COUNTS = {0, -1, 7, 257, Check.MIN, Check.MAX};

    public static void main(String[] args) {
        widthIsFrom1To6000();
        heightIsFrom1To6000();
        countIsFrom1To6();
        turnsOrNot();
        numbersCountFrom0();
        theSixthIsTakenTheSeventhIsRefused();
        doneOrdersAreAmongTheSix();
        aWrongOrderIsToldBeforeSix();
        refusedOrdersTakeNoNumber();
        Check.end();
    }

    private static void orders(Hall hall, int count) {
        for (int i = 0; i < count; i++) {
            hall.order(10, 10, false, 1);
        }
    }

    /** "IllegalArgument: width or height is not 1 .. 6000": the width. */
    private static void widthIsFrom1To6000() {
        for (int w : LENGTHS) {
            Hall hall = new CountedHall();
            Check.same("order of " + w + " x 10", hall.order(w, 10, false, 1), 0);
            hall.sheet(w, 10);
            hall.plan(0);
            Trees.areAs("a sheet of its size", hall, 0, "P 0 0 " + w + " 10 0 -1 -1 1");
        }
        for (int w : NO_LENGTHS) {
            Check.refused("order of " + w + " x 10", Scenes::empty, Check.ARGUMENT, h -> h.order(w, 10, false, 1));
        }
    }

    /** "IllegalArgument: width or height is not 1 .. 6000": the height. */
    private static void heightIsFrom1To6000() {
        for (int h : LENGTHS) {
            Hall hall = new CountedHall();
            Check.same("order of 10 x " + h, hall.order(10, h, false, 1), 0);
            hall.sheet(10, h);
            hall.plan(0);
            Trees.areAs("a sheet of its size", hall, 0, "P 0 0 10 " + h + " 0 -1 -1 1");
        }
        for (int h : NO_LENGTHS) {
            Check.refused("order of 10 x " + h, Scenes::empty, Check.ARGUMENT, a -> a.order(10, h, false, 1));
            Check.refused("order of " + h + " x " + h, Scenes::empty, Check.ARGUMENT, a -> a.order(h, h, true, 1));
        }
    }

    /** "or n is not 1 .. 6"; "An order of n panes, all open". */
    private static void countIsFrom1To6() {
        for (int n = 1; n <= 6; n++) {
            Hall hall = new CountedHall();
            Check.same("order of " + n, hall.order(10, 10, false, n), 0);
            Check.same("its panes", Story.panes(hall, 0), n + " 0 0");
            hall.sheet(100, 10);
            Check.same("panes of a long sheet", hall.plan(0), n);
        }
        for (int n : NO_COUNTS) {
            Check.refused("order of " + n, Scenes::empty, Check.ARGUMENT, h -> h.order(10, 10, false, n));
        }
    }

    /** "which may be turned by a quarter or not". */
    private static void turnsOrNot() {
        Hall hall = new CountedHall();
        hall.order(20, 10, false, 1);
        hall.sheet(10, 20);
        Check.same("plan of what may not be turned", hall.plan(0), 0);
        hall.order(20, 10, true, 1);
        Check.same("plan of what may be turned", hall.plan(0), 1);
        Trees.areAs("its tree", hall, 0, "P 0 0 10 20 1 -1 -1 1");
    }

    /** "ORDERS, up to 6, are numbered from 0". */
    private static void numbersCountFrom0() {
        Hall hall = new CountedHall();
        for (int i = 0; i < 6; i++) {
            Check.same("number", hall.order(10 + i, 20 - i, i % 2 == 0, i + 1), i);
            Check.same("orders", hall.total(2), i + 1);
        }
        for (int i = 0; i < 6; i++) {
            Check.same("panes of order " + i, Story.panes(hall, i), i + 1 + " 0 0");
        }
    }

    /** "IllegalState: there are 6". */
    private static void theSixthIsTakenTheSeventhIsRefused() {
        Hall hall = Check.hallOf(h -> orders(h, 5));
        Check.same("the sixth order", hall.order(10, 10, false, 1), 5);
        Check.refused("a seventh order", h -> orders(h, 6), Check.STATE, h -> h.order(10, 10, false, 1));
    }

    /** Orders do not go: not when all of their panes are done. */
    private static void doneOrdersAreAmongTheSix() {
        Check.refused("an order beside six that are done", h -> {
            orders(h, 6);
            h.sheet(60, 10);
            h.plan(0);
            for (int i = 0; i < 5; i++) {
                h.score(0);
            }
        }, Check.STATE, h -> h.order(10, 10, false, 1));
    }

    /** "the first that is so": an order that is wrong, before six. */
    private static void aWrongOrderIsToldBeforeSix() {
        for (int n : NO_LENGTHS) {
            Check.refused("a seventh order of a wrong width", h -> orders(h, 6), Check.ARGUMENT,
                    h -> h.order(n, 10, false, 1));
            Check.refused("a seventh order of a wrong height", h -> orders(h, 6), Check.ARGUMENT,
                    h -> h.order(10, n, false, 1));
        }
        for (int n : NO_COUNTS) {
            Check.refused("a seventh order of a wrong count", h -> orders(h, 6), Check.ARGUMENT,
                    h -> h.order(10, 10, false, n));
        }
    }

    /** "a call that throws changes nothing". */
    private static void refusedOrdersTakeNoNumber() {
        Hall hall = new CountedHall();
        for (int n : NO_LENGTHS) {
            Check.outcome(hall, h -> h.order(n, 10, false, 1));
            Check.outcome(hall, h -> h.order(10, n, false, 1));
        }
        Check.outcome(hall, h -> h.order(10, 10, false, 7));
        Check.same("number after refused orders", hall.order(10, 10, false, 1), 0);
    }
}
