import java.util.Random;

/** All promises: runs of 512 calls, drawn from written seeds, on the program and on the plain hall beside it. */
public final class RandomRunsTest {
    private static final int RUNS = 12_000;

    private final Random random;
    private final CountedHall hall = new CountedHall();
    private final PlainHall plain = new PlainHall();
    private final int unit;
    private final int flawsSeldom;
    private final StringBuilder log = new StringBuilder();

    private RandomRunsTest(long seed) {
        random = new Random(seed);
        unit = new int[] {1, 1, 50, 100, 997}[random.nextInt(5)];
        flawsSeldom = 1 + random.nextInt(4);
        log.append("run ").append(seed).append('\n');
    }

    public static void main(String[] args) {
        for (int run = 0; run < RUNS && Check.allIsAsDue(); run++) {
            new RandomRunsTest(run).agree();
        }
        Check.end();
    }

    private void agree() {
        while (hall.callsLeft() > 20 && Check.allIsAsDue()) {
            step();
            look();
        }
        for (int kind = 0; kind <= 6; kind++) {
            tell("area", kind);
        }
        long sum = 0;
        for (int kind = 0; kind <= 5; kind++) {
            sum += plain.area(kind);
        }
        Check.same("all areas together", sum, plain.area(6));
        while (hall.callsLeft() > 0) {
            tell("total", small(5));
        }
    }

    private void same(String name, Check.Call call, int... arguments) {
        String answer = Check.outcome(hall, call);
        String due = Check.outcome(plain, call);
        log.append(name);
        for (int argument : arguments) {
            log.append(' ').append(argument);
        }
        log.append(" = ").append(due).append('\n');
        if (!answer.equals(due)) {
            Check.tell(log + "the last call answered " + answer);
        }
    }

    private int length() {
        if (random.nextInt(60) == 0) {
            return random.nextInt(9000) - 1000;
        }
        return unit * (1 + random.nextInt(random.nextInt(12) + 1));
    }

    private int small(int bound) {
        return random.nextInt(bound + 2) - 1;
    }

    /** Mostly one of the newest sheets, as these are there. */
    private int id() {
        return Math.max(-1, plain.total(4) - random.nextInt(9));
    }

    private void step() {
        int id = id();
        switch (random.nextInt(16)) {
            case 0:
            case 1:
                makeSheet(length() + unit * random.nextInt(10), length() + unit * random.nextInt(10));
                break;
            case 2:
                makeFlaw(id, length() - unit, length() - unit, length(), length());
                break;
            case 3:
                makeOrder(length(), length(), random.nextBoolean(), small(7));
                break;
            case 4:
            case 5:
                same("plan", h -> h.plan(id), id);
                break;
            case 6:
            case 7:
                tryExact(id, small(6), small(6), small(6));
                break;
            case 8:
            case 9:
            case 10:
            case 11:
                same("score", h -> h.score(id), id);
                break;
            case 12:
                breakNode(id, small(random.nextInt(20) + 1));
                break;
            case 13:
                same("cancel", h -> h.cancel(id), id);
                break;
            default:
                useOffcut(small(4));
                break;
        }
    }

    private void makeSheet(int w, int h) {
        same("sheet", a -> a.sheet(w, h), w, h);
    }

    private void makeFlaw(int id, int x, int y, int w, int h) {
        if (random.nextInt(flawsSeldom) == 0) {
            same("flaw", a -> a.flaw(id, x, y, w, h), id, x, y, w, h);
        }
    }

    private void makeOrder(int w, int h, boolean turn, int n) {
        same("order", a -> a.order(w, h, turn, n), w, h, turn ? 1 : 0, n);
    }

    private void tryExact(int id, int a, int b, int c) {
        same("exact", h -> h.exact(id, a, b, c), id, a, b, c);
    }

    private void breakNode(int id, int node) {
        same("broke", h -> h.broke(id, node), id, node);
    }

    private void useOffcut(int k) {
        same("use", h -> h.use(k), k);
    }

    /** A call or two that change nothing. */
    private void look() {
        int id = id();
        switch (random.nextInt(8)) {
            case 0:
                tell("area", small(7));
                break;
            case 1:
                tell("total", small(5));
                break;
            case 2:
                tellPanes(small(plain.total(2)), small(3));
                break;
            case 3:
                tellOffcut(small(plain.total(3)), small(3));
                break;
            case 4:
                tellFit(length(), length());
                break;
            case 5:
                tellFlaw(id, small(6), small(4));
                break;
            default:
                tellTree(id);
                break;
        }
    }

    private void tell(String name, int what) {
        same(name, h -> name.equals("area") ? h.area(what) : h.total(what), what);
    }

    private void tellPanes(int order, int what) {
        same("panes", h -> h.panes(order, what), order, what);
    }

    private void tellOffcut(int k, int what) {
        same("rack", h -> h.rack(k, what), k, what);
    }

    private void tellFit(int w, int h) {
        same("fit", a -> a.fit(w, h), w, h);
    }

    private void tellFlaw(int id, int k, int what) {
        same("flawed", h -> h.flawed(id, k, what), id, k, what);
    }

    private void tellTree(int id) {
        same("nodes", h -> h.nodes(id), id);
        String nodes = Check.outcome(plain, h -> h.nodes(id));
        int count = nodes.startsWith("throws") ? 0 : Integer.parseInt(nodes);
        for (int i = 0; i < 3 && count > 0; i++) {
            tellNode(id, small(count), small(9));
        }
    }

    private void tellNode(int id, int i, int what) {
        same("node", h -> h.node(id, i, what), id, i, what);
    }
}
