/** The program itself. Its calls are counted, as nothing is promised after the 512th: no test may go that far. */
final class CountedHall implements Hall {
    static final int MOST_CALLS = 512;

    private final GlassHall hall = new GlassHall();
    private int calls;

    private GlassHall counted() {
        calls++;
        if (calls == MOST_CALLS + 1) {
            Check.tell("a test makes more than 512 calls of one object");
        }
        return hall;
    }

    int callsLeft() {
        return MOST_CALLS - calls;
    }

    @Override
    public int sheet(int w, int h) {
        return counted().sheet(w, h);
    }

    @Override
    public int flaw(int id, int x, int y, int w, int h) {
        return counted().flaw(id, x, y, w, h);
    }

    @Override
    public int order(int w, int h, boolean turn, int n) {
        return counted().order(w, h, turn, n);
    }

    @Override
    public int plan(int id) {
        return counted().plan(id);
    }

    @Override
    public int exact(int id, int a, int b, int c) {
        return counted().exact(id, a, b, c);
    }

    @Override
    public int node(int id, int i, int what) {
        return counted().node(id, i, what);
    }

    @Override
    public int nodes(int id) {
        return counted().nodes(id);
    }

    @Override
    public int score(int id) {
        return counted().score(id);
    }

    @Override
    public int broke(int id, int node) {
        return counted().broke(id, node);
    }

    @Override
    public int cancel(int id) {
        return counted().cancel(id);
    }

    @Override
    public int use(int k) {
        return counted().use(k);
    }

    @Override
    public int rack(int k, int what) {
        return counted().rack(k, what);
    }

    @Override
    public int fit(int w, int h) {
        return counted().fit(w, h);
    }

    @Override
    public int flawed(int id, int k, int what) {
        return counted().flawed(id, k, what);
    }

    @Override
    public int panes(int order, int what) {
        return counted().panes(order, what);
    }

    @Override
    public long area(int kind) {
        return counted().area(kind);
    }

    @Override
    public int total(int what) {
        return counted().total(what);
    }
}
