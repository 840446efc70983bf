/** The example of README.md, call by call. */
public final class ExampleTest {
    public static void main(String[] args) {
        Hall hall = new CountedHall();
        int pane = hall.order(400, 300, false, 2);
        int sheet = hall.sheet(1000, 700);
        Check.same("flaw", hall.flaw(sheet, 900, 600, 20, 20), 1);
        Check.same("plan", hall.plan(sheet), 2);
        Check.same("nodes", hall.nodes(sheet), 7);
        Check.same("what node 0 is", hall.node(sheet, 0, 0), 0);
        Check.same("where node 0 is cut", hall.node(sheet, 0, 5), 400);
        Check.same("score", hall.score(sheet), 0);
        Check.same("fit", hall.fit(700, 500), 0);
        Check.same("broke", hall.broke(sheet, 1), 2);
        Check.same("open panes", hall.panes(pane, 0), 2);
        int next = hall.use(0);
        Check.same("the offcut's id", next, 1);
        Check.same("the flaw's x", hall.flawed(next, 0, 0), 500);
        Check.same("broken area", hall.area(4), 280_000);
        Check.same("plan of a sheet that is gone", Check.outcome(hall, h -> h.plan(sheet)),
                "throws NoSuchElementException");
        Check.end();
    }
}
