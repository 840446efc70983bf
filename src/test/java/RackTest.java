/** Promise 13, rack. */
public final class RackTest {
    public static void main(String[] args) {
        tellsEachMeasure();
        tellsHowManyFlaws();
        theLastIsToldTheNextIsRefused();
        anotherWhatIsRefused();
        noSuchOffcutIsToldBeforeAnotherWhat();
        Check.end();
    }

    private static void twoOffcuts(Hall hall) {
        Scenes.offcuts(hall, new int[][] {{310, 420}, {530, 340}});
    }

    /** "its width (what = 0), height (1)". */
    private static void tellsEachMeasure() {
        Hall hall = Check.hallOf(RackTest::twoOffcuts);
        Check.same("width of offcut 0", hall.rack(0, 0), 310);
        Check.same("height of offcut 0", hall.rack(0, 1), 420);
        Check.same("width of offcut 1", hall.rack(1, 0), 530);
        Check.same("height of offcut 1", hall.rack(1, 1), 340);
    }

    /** "how many flaws it has (2)": none to six. */
    private static void tellsHowManyFlaws() {
        for (int flaws = 0; flaws <= 6; flaws++) {
            int count = flaws;
            Hall hall = Check.hallOf(h -> Scenes.flawedOffcut(h, count));
            Check.same("flaws of the offcut", hall.rack(0, 2), flaws);
        }
    }

    /** "NoSuchElement: there is no such offcut". */
    private static void theLastIsToldTheNextIsRefused() {
        for (int k : new int[] {-1, 2, 9, 10, Check.MIN, Check.MAX}) {
            Check.refused("rack(" + k + ", 0)", RackTest::twoOffcuts, Check.ELEMENT, h -> h.rack(k, 0));
        }
        Check.same("the last of ten", Check.hallOf(h -> Scenes.offcuts(h, 10)).rack(9, 0), 309);
        Check.refused("rack(10, 0) of ten", h -> Scenes.offcuts(h, 10), Check.ELEMENT, h -> h.rack(10, 0));
    }

    /** "IllegalArgument: another what". */
    private static void anotherWhatIsRefused() {
        for (int what : new int[] {-1, 3, Check.MIN, Check.MAX}) {
            Check.refused("rack(1, " + what + ")", RackTest::twoOffcuts, Check.ARGUMENT, h -> h.rack(1, what));
        }
    }

    private static void noSuchOffcutIsToldBeforeAnotherWhat() {
        for (int k : new int[] {-1, 2, Check.MIN, Check.MAX}) {
            Check.refused("rack(" + k + ", 3)", RackTest::twoOffcuts, Check.ELEMENT, h -> h.rack(k, 3));
        }
    }
}
