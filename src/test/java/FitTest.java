/** Promise 14, fit. */
public final class FitTest {
    private static final int NONE = Hall.NONE;

    public static void main(String[] args) {
        anEmptyRackHasNone();
        isAtLeastAsWideAndHigh();
        orTurned();
        notHalfAsItIsAndHalfTurned();
        theLeastAreaIsTaken();
        ofTheSameAreaTheLeastNumber();
        anyNumbersAreTaken();
        allOfAFullRackAreSeen();
        changesNothing();
        numbersAreThoseOfTheRack();
        Check.end();
    }

    private static Hall rackOf(int[]... sizes) {
        return Check.hallOf(h -> Scenes.offcuts(h, sizes));
    }

    /** "NONE when there is none". */
    private static void anEmptyRackHasNone() {
        Hall hall = new CountedHall();
        Check.same("fit in an empty rack", hall.fit(1, 1), NONE);
        Check.same("fit of nothing in an empty rack", hall.fit(0, 0), NONE);
        Hall used = rackOf(new int[] {300, 300});
        used.use(0);
        Check.same("fit when all are used", used.fit(300, 300), NONE);
    }

    /** "at least w wide and h high". */
    private static void isAtLeastAsWideAndHigh() {
        Hall hall = rackOf(new int[] {400, 300});
        Check.same("just as wide and high", hall.fit(400, 300), 0);
        Check.same("less by 1", hall.fit(399, 299), 0);
        Check.same("too wide by 1", hall.fit(401, 300), NONE);
        Check.same("too high by 1", hall.fit(400, 301), NONE);
        Check.same("too wide by 1, though low", hall.fit(401, 1), NONE);
    }

    /** "or turned". */
    private static void orTurned() {
        Hall hall = rackOf(new int[] {400, 300});
        Check.same("just as wide and high", hall.fit(300, 400), 0);
        Check.same("less by 1", hall.fit(299, 399), 0);
        Check.same("too wide by 1", hall.fit(301, 400), NONE);
        Check.same("too high by 1", hall.fit(300, 401), NONE);
        Check.same("too high by 1, though narrow", hall.fit(1, 401), NONE);
        Hall high = rackOf(new int[] {300, 500});
        Check.same("a high one, turned", high.fit(500, 300), 0);
        Check.same("too wide for it by 1", high.fit(501, 300), NONE);
    }

    private static void notHalfAsItIsAndHalfTurned() {
        Hall hall = rackOf(new int[] {400, 300});
        Check.same("as wide both ways", hall.fit(400, 400), NONE);
        Check.same("as low both ways", hall.fit(300, 300), 0);
        Check.same("a little more both ways", hall.fit(301, 301), NONE);
    }

    /** "The offcut of the least area": not the narrowest, the first or the last. */
    private static void theLeastAreaIsTaken() {
        Hall hall = rackOf(new int[] {300, 2000}, new int[] {700, 700}, new int[] {700, 701});
        Check.same("of all three", hall.fit(300, 300), 1);
        Check.same("of those that are wide", hall.fit(700, 701), 2);
        Check.same("of those that are long", hall.fit(2000, 300), 0);
        Hall near = rackOf(new int[] {301, 300}, new int[] {300, 300}, new int[] {300, 302});
        Check.same("the least by little", near.fit(300, 300), 1);
        Check.same("the least of two by little", near.fit(301, 300), 0);
        Check.same("the last alone", near.fit(302, 300), 2);
        Hall turned = rackOf(new int[] {600, 500}, new int[] {400, 600});
        Check.same("the least has to be turned", turned.fit(600, 400), 1);
    }

    /** "of the same area the one with the least number". */
    private static void ofTheSameAreaTheLeastNumber() {
        Hall hall = rackOf(new int[] {800, 600}, new int[] {400, 900}, new int[] {300, 1200}, new int[] {600, 600});
        Check.same("of three", hall.fit(300, 500), 1);
        Check.same("of two", hall.fit(400, 600), 1);
        Check.same("the second of three", hall.fit(300, 1200), 2);
        Check.same("the last of three", hall.fit(600, 600), 3);
        Check.same("of two alike", rackOf(new int[] {300, 300}, new int[] {300, 300}).fit(300, 300), 0);
        Check.same("turned and as it is", rackOf(new int[] {300, 400}, new int[] {400, 300}).fit(400, 300), 0);
    }

    private static void anyNumbersAreTaken() {
        Hall hall = rackOf(new int[] {400, 300});
        Check.same("0 and 0", hall.fit(0, 0), 0);
        Check.same("less than 0", hall.fit(-1, -1), 0);
        Check.same("the least numbers", hall.fit(Check.MIN, Check.MIN), 0);
        Check.same("the least width", hall.fit(Check.MIN, 400), 0);
        Check.same("the least width, too high by 1", hall.fit(Check.MIN, 401), NONE);
        Check.same("the least height", hall.fit(400, Check.MIN), 0);
        Check.same("the least height, too wide by 1", hall.fit(401, Check.MIN), NONE);
        Check.same("the greatest numbers", hall.fit(Check.MAX, Check.MAX), NONE);
        Check.same("the greatest width", hall.fit(Check.MAX, 1), NONE);
        Check.same("the greatest height", hall.fit(1, Check.MAX), NONE);
    }

    private static void allOfAFullRackAreSeen() {
        Hall hall = Check.hallOf(h -> Scenes.offcuts(h, 10));
        for (int k = 0; k < 10; k++) {
            Check.same("the least that is as wide", hall.fit(300 + k, 300), k);
        }
        Check.same("wider than all by 1", hall.fit(310, 300), NONE);
    }

    private static void changesNothing() {
        Check.leavesAll("fit", h -> Scenes.offcuts(h, 3), h -> h.fit(301, 300), 1);
    }

    private static void numbersAreThoseOfTheRack() {
        Hall hall = Check.hallOf(h -> Scenes.offcuts(h, 4));
        hall.use(1);
        Check.same("before the one that is used", hall.fit(300, 300), 0);
        Check.same("the one that is used", hall.fit(301, 300), 1);
        Check.same("behind it", hall.fit(303, 300), 2);
    }
}
