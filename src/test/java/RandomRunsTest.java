import java.util.Random;

/** All promises: runs of calls, drawn from written seeds, on the program and on the plain hall beside it. */
public final class RandomRunsTest {
    private static final int RUNS = 4000;
    private static final int STEPS = 512;

    private final Random random;
    private final GlassHall hall = new GlassHall();
    private final PlainHall plain = new PlainHall();
    private final int unit;
    private final int flawsSeldom;
    private final StringBuilder log = new StringBuilder();

    private RandomRunsTest(long seed) {
        random = new Random(seed);
        unit = new int[] {1, 1, 50, 100, 997}[random.nextInt(5)];
        flawsSeldom = 1 + random.nextInt(4);
    }

    public static void main(String[] args) {
        for (int run = 0; run < RUNS; run++) {
            if (!new RandomRunsTest(run).agrees()) {
                break;
            }
        }
        Check.end();
    }

    private boolean agrees() {
        for (int i = 0; i < STEPS; i++) {
            if (!step() || !accountsAgree()) {
                return false;
            }
        }
        return true;
    }

    private boolean same(String call, Check.Call got, Check.Call due) {
        String answer = Check.outcome(got);
        String want = Check.outcome(due);
        log.append(call).append(" = ").append(want).append('\n');
        if (answer.equals(want)) {
            return true;
        }
        Check.tell(log + "the last call answered " + answer);
        return false;
    }

    private int length() {
        if (random.nextInt(60) == 0) {
            return random.nextInt(9000) - 1000;
        }
        return unit * (1 + random.nextInt(random.nextInt(12) + 1));
    }

    private int small(int bound) {
        return random.nextInt(bound + 2) - 1;
    }

    /** Mostly one of the newest sheets, as these are there. */
    private int id() {
        return Math.max(-1, hall.total(4) - random.nextInt(9));
    }

    private boolean step() {
        int id = id();
        switch (random.nextInt(16)) {
            case 0:
                return trySheet(length() + unit * random.nextInt(10), length() + unit * random.nextInt(10));
            case 1:
                return random.nextInt(flawsSeldom) > 0
                        || tryFlaw(id, length() - unit, length() - unit, length(), length());
            case 2:
                return tryOrder(length(), length(), random.nextBoolean(), small(7));
            case 3:
            case 4:
                return same("plan(" + id + ")", () -> hall.plan(id), () -> plain.plan(id)) && treeAgrees(id);
            case 5:
            case 6:
                return tryExact(id, small(6), small(6), small(6)) && treeAgrees(id);
            case 7:
                return tryNode(id, small(30), small(9));
            case 8:
            case 9:
            case 10:
                return same("score(" + id + ")", () -> hall.score(id), () -> plain.score(id)) && treeAgrees(id);
            case 11:
                return tryBroke(id, small(random.nextInt(20) + 1)) && treeAgrees(id);
            case 12:
                return same("cancel(" + id + ")", () -> hall.cancel(id), () -> plain.cancel(id));
            case 13:
                return tryUse(small(4));
            case 14:
                return tryFit(length(), length()) && tryRack(small(10), small(3));
            default:
                return tryFlawed(id, small(6), small(4)) && tryPanes(small(6), small(3));
        }
    }

    private boolean trySheet(int w, int h) {
        return same("sheet(" + w + ", " + h + ")", () -> hall.sheet(w, h), () -> plain.sheet(w, h));
    }

    private boolean tryFlaw(int id, int x, int y, int w, int h) {
        return same("flaw(" + id + ", " + x + ", " + y + ", " + w + ", " + h + ")", () -> hall.flaw(id, x, y, w, h),
                () -> plain.flaw(id, x, y, w, h));
    }

    private boolean tryOrder(int w, int h, boolean turn, int n) {
        return same("order(" + w + ", " + h + ", " + turn + ", " + n + ")", () -> hall.order(w, h, turn, n),
                () -> plain.order(w, h, turn, n));
    }

    private boolean tryExact(int id, int a, int b, int c) {
        return same("exact(" + id + ", " + a + ", " + b + ", " + c + ")", () -> hall.exact(id, a, b, c),
                () -> plain.exact(id, a, b, c));
    }

    private boolean tryNode(int id, int i, int what) {
        return same("node(" + id + ", " + i + ", " + what + ")", () -> hall.node(id, i, what),
                () -> plain.node(id, i, what));
    }

    private boolean tryBroke(int id, int node) {
        return same("broke(" + id + ", " + node + ")", () -> hall.broke(id, node), () -> plain.broke(id, node));
    }

    private boolean tryUse(int k) {
        return same("use(" + k + ")", () -> hall.use(k), () -> plain.use(k));
    }

    private boolean tryFit(int w, int h) {
        return same("fit(" + w + ", " + h + ")", () -> hall.fit(w, h), () -> plain.fit(w, h));
    }

    private boolean tryRack(int k, int what) {
        return same("rack(" + k + ", " + what + ")", () -> hall.rack(k, what), () -> plain.rack(k, what));
    }

    private boolean tryFlawed(int id, int k, int what) {
        return same("flawed(" + id + ", " + k + ", " + what + ")", () -> hall.flawed(id, k, what),
                () -> plain.flawed(id, k, what));
    }

    private boolean tryPanes(int order, int what) {
        return same("panes(" + order + ", " + what + ")", () -> hall.panes(order, what),
                () -> plain.panes(order, what));
    }

    private boolean treeAgrees(int id) {
        if (!same("nodes(" + id + ")", () -> hall.nodes(id), () -> plain.nodes(id))) {
            return false;
        }
        String told = Check.outcome(() -> hall.nodes(id));
        int nodes = told.charAt(0) == 't' ? 0 : Integer.parseInt(told);
        for (int i = 0; i < nodes; i++) {
            for (int what = 0; what <= 8; what++) {
                if (hall.node(id, i, what) != plain.node(id, i, what)) {
                    return tryNode(id, i, what);
                }
            }
        }
        return true;
    }

    private boolean accountsAgree() {
        long sum = 0;
        for (int kind = 0; kind <= 6; kind++) {
            int k = kind;
            if (hall.area(k) != plain.area(k) || hall.total(k) != plain.total(k)) {
                return same("area(" + k + ")", () -> hall.area(k), () -> plain.area(k))
                        & same("total(" + k + ")", () -> hall.total(k), () -> plain.total(k));
            }
            sum += k < 6 ? hall.area(k) : -hall.area(k);
        }
        Check.same("all areas together, less what was made", sum, 0);
        return sum == 0;
    }
}
