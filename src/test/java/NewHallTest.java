/** Promise 1, a new object: "No sheets, no orders, no offcuts." */
public final class NewHallTest {
    public static void main(String[] args) {
        noSheets();
        noOrders();
        noOffcuts();
        nothingOfAnotherHall();
        Check.end();
    }

    private static void noSheets() {
        Hall hall = new CountedHall();
        Check.same("sheets", hall.total(0), 0);
        Check.same("planned sheets", hall.total(1), 0);
        Check.same("sheets ever", hall.total(4), 0);
        for (int kind = 0; kind <= 6; kind++) {
            Check.same("area(" + kind + ")", hall.area(kind), 0);
        }
        hall.order(10, 10, false, 1);
        refusedForAllIds("flaw", (h, id) -> h.flaw(id, 0, 0, 1, 1));
        refusedForAllIds("plan", Hall::plan);
        refusedForAllIds("exact", (h, id) -> h.exact(id, 0, Hall.NONE, Hall.NONE));
        refusedForAllIds("node", (h, id) -> h.node(id, 0, 0));
        refusedForAllIds("nodes", Hall::nodes);
        refusedForAllIds("score", Hall::score);
        refusedForAllIds("broke", (h, id) -> h.broke(id, 0));
        refusedForAllIds("cancel", Hall::cancel);
        refusedForAllIds("flawed", (h, id) -> h.flawed(id, 0, 0));
        Check.same("the first sheet's id", hall.sheet(10, 10), 0);
    }

    private static void refusedForAllIds(String what, Check.SheetCall call) {
        for (int id = -1; id <= 8; id++) {
            int sheet = id;
            Check.refused(what + " of sheet " + id + " in a new hall", h -> h.order(10, 10, false, 1), Check.ELEMENT,
                    h -> call.answer(h, sheet));
        }
    }

    private static void noOrders() {
        Hall hall = new CountedHall();
        Check.same("orders", hall.total(2), 0);
        for (int order = -1; order <= 6; order++) {
            int number = order;
            Check.refused("panes of order " + order + " in a new hall", Scenes::empty, Check.ELEMENT,
                    h -> h.panes(number, 0));
        }
        Check.refused("exact without orders", h -> h.sheet(10, 10), Check.ELEMENT,
                h -> h.exact(0, 0, Hall.NONE, Hall.NONE));
        Check.leavesAll("plan without orders", h -> h.sheet(10, 10), h -> h.plan(0), 0);
        Check.same("the first order's number", hall.order(10, 10, false, 1), 0);
    }

    private static void noOffcuts() {
        Hall hall = new CountedHall();
        Check.same("offcuts", hall.total(3), 0);
        Check.same("fit of the smallest", hall.fit(1, 1), Hall.NONE);
        Check.same("fit of nothing", hall.fit(0, 0), Hall.NONE);
        for (int k = -1; k <= 10; k++) {
            int number = k;
            Check.refused("rack(" + k + ", 0) in a new hall", Scenes::empty, Check.ELEMENT, h -> h.rack(number, 0));
            Check.refused("use(" + k + ") in a new hall", Scenes::empty, Check.ELEMENT, h -> h.use(number));
        }
    }

    private static void nothingOfAnotherHall() {
        String due = Story.of(new CountedHall());
        Hall other = new CountedHall();
        Hall one = Check.hallOf(h -> Scenes.offcuts(h, 2));
        one.sheet(20, 20);
        one.flaw(2, 19, 19, 1, 1);
        one.plan(2);
        Check.same("a hall that was made before", Story.of(other), due);
        Check.same("a hall that is made after", Story.of(new CountedHall()), due);
    }
}
