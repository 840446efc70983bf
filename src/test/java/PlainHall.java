import java.util.ArrayList;
import java.util.Comparator;
import java.util.List;
import java.util.NoSuchElementException;

/** The document once more, word by word and without any care for room, to hold the program against. */
final class PlainHall implements Hall {
    record Rect(int x, int y, int w, int h) {
        boolean meets(Rect o) {
            return Math.min(x + w, o.x + o.w) > Math.max(x, o.x) && Math.min(y + h, o.y + o.h) > Math.max(y, o.y);
        }

        long area() {
            return (long) w * h;
        }
    }

    record Placed(int order, int w, int h) {
    }

    private static final class Node {
        int kind;
        Rect at;
        int mark = NONE;
        Node first;
        Node second;
        int state;
    }

    private static final class Pane {
        int state;
    }

    private static final class Order {
        int w;
        int h;
        boolean turn;
        List<Pane> panes = new ArrayList<>();

        int count(int state) {
            return (int) panes.stream().filter(p -> p.state == state).count();
        }

        void move(int from, int to) {
            panes.stream().filter(p -> p.state == from).findFirst().orElseThrow().state = to;
        }
    }

    private static final class Sheet {
        int id;
        int w;
        int h;
        List<Rect> flaws = new ArrayList<>();
        List<Node> nodes;
        boolean scored;
    }

    private final List<Sheet> sheets = new ArrayList<>();
    private final List<Order> orders = new ArrayList<>();
    private final List<Sheet> rack = new ArrayList<>();
    private int ids;
    private final long[] account = new long[7];

    private static void argue(boolean wrong) {
        if (wrong) {
            throw new IllegalArgumentException();
        }
    }

    private static void state(boolean wrong) {
        if (wrong) {
            throw new IllegalStateException();
        }
    }

    private static void there(boolean is) {
        if (!is) {
            throw new NoSuchElementException();
        }
    }

    private Sheet find(int id) {
        return sheets.stream().filter(s -> s.id == id).findFirst().orElseThrow(NoSuchElementException::new);
    }

    private Sheet planned(int id) {
        Sheet s = find(id);
        state(s.nodes == null);
        return s;
    }

    @Override
    public int sheet(int w, int h) {
        argue(w < 1 || w > 6000 || h < 1 || h > 6000);
        state(sheets.size() == 8);
        Sheet s = new Sheet();
        s.w = w;
        s.h = h;
        account[6] += (long) w * h;
        return enter(s);
    }

    private int enter(Sheet s) {
        s.id = ids++;
        sheets.add(s);
        return s.id;
    }

    @Override
    public int flaw(int id, int x, int y, int w, int h) {
        Sheet s = find(id);
        argue(w < 1 || h < 1 || x < 0 || y < 0 || (long) x + w > s.w || (long) y + h > s.h);
        state(s.nodes != null || s.flaws.size() == 6);
        s.flaws.add(new Rect(x, y, w, h));
        return s.flaws.size();
    }

    @Override
    public int order(int w, int h, boolean turn, int n) {
        argue(w < 1 || w > 6000 || h < 1 || h > 6000 || n < 1 || n > 6);
        state(orders.size() == 6);
        Order o = new Order();
        o.w = w;
        o.h = h;
        o.turn = turn;
        for (int i = 0; i < n; i++) {
            o.panes.add(new Pane());
        }
        orders.add(o);
        return orders.size() - 1;
    }

    @Override
    public int plan(int id) {
        Sheet s = find(id);
        state(s.nodes != null);
        List<List<List<Placed>>> columns = new ArrayList<>();
        int x = 0;
        int count = 0;
        while (true) {
            List<List<Placed>> column = new ArrayList<>();
            int y = 0;
            int room = s.w - x;
            Placed p = firstThatFits(s, x, y, room);
            while (p != null) {
                column.add(List.of(p));
                orders.get(p.order).move(0, 1);
                count++;
                room = column.get(0).get(0).w;
                y += p.h;
                p = firstThatFits(s, x, y, room);
            }
            if (column.isEmpty()) {
                break;
            }
            columns.add(column);
            x += column.get(0).get(0).w;
        }
        if (count > 0) {
            plant(s, columns);
        }
        return count;
    }

    private Placed firstThatFits(Sheet s, int x, int y, int room) {
        List<Integer> numbers = new ArrayList<>();
        for (int i = 0; i < orders.size(); i++) {
            numbers.add(i);
        }
        numbers.sort(Comparator.comparingInt((Integer i) -> -orders.get(i).h).thenComparingInt(i -> -orders.get(i).w)
                .thenComparingInt(i -> i));
        for (int i : numbers) {
            Order o = orders.get(i);
            List<Placed> ways = new ArrayList<>();
            ways.add(new Placed(i, o.w, o.h));
            if (o.turn && o.w != o.h) {
                ways.add(new Placed(i, o.h, o.w));
            }
            for (Placed p : ways) {
                Rect r = new Rect(x, y, p.w, p.h);
                if (o.count(0) > 0 && p.w <= room && y + p.h <= s.h && s.flaws.stream().noneMatch(r::meets)) {
                    return p;
                }
            }
        }
        return null;
    }

    @Override
    public int exact(int id, int a, int b, int c) {
        Sheet s = find(id);
        List<Integer> named = new ArrayList<>(List.of(a));
        for (int n : new int[] {b, c}) {
            if (n != NONE) {
                named.add(n);
            }
        }
        for (int n : named) {
            there(n >= 0 && n < orders.size());
        }
        state(s.nodes != null || !s.flaws.isEmpty());
        for (int n : named) {
            state(named.stream().filter(m -> m == n).count() > orders.get(n).count(0));
        }
        int ways = 1;
        for (int i = 0; i < named.size(); i++) {
            ways *= 18;
        }
        for (int way = 0; way < ways; way++) {
            List<List<List<Placed>>> columns = layoutOf(named, way, ways);
            if (columns != null && fits(columns, s.w, s.h)) {
                named.forEach(n -> orders.get(n).move(0, 1));
                plant(s, columns);
                return named.size();
            }
        }
        return 0;
    }

    /** A way is read as digits of 3, 3 and 2, the first pane's first; null when there is no such layout. */
    private List<List<List<Placed>>> layoutOf(List<Integer> named, int way, int ways) {
        List<List<List<Placed>>> columns = new ArrayList<>();
        int left = ways;
        for (int n : named) {
            left /= 18;
            int digits = way / left % 18;
            int column = digits / 6;
            int row = digits / 2 % 3;
            boolean turned = digits % 2 == 1;
            Order o = orders.get(n);
            if (column > columns.size() || turned && !o.turn) {
                return null;
            }
            if (column == columns.size()) {
                columns.add(new ArrayList<>());
            }
            List<List<Placed>> rows = columns.get(column);
            if (row > rows.size()) {
                return null;
            }
            if (row == rows.size()) {
                rows.add(new ArrayList<>());
            }
            rows.get(row).add(turned ? new Placed(n, o.h, o.w) : new Placed(n, o.w, o.h));
        }
        return columns;
    }

    private static int width(List<List<Placed>> column) {
        return column.stream().mapToInt(row -> row.stream().mapToInt(Placed::w).sum()).max().orElseThrow();
    }

    private static int height(List<Placed> row) {
        return row.stream().mapToInt(Placed::h).max().orElseThrow();
    }

    private static boolean fits(List<List<List<Placed>>> columns, int w, int h) {
        return columns.stream().mapToInt(PlainHall::width).sum() <= w
                && columns.stream().allMatch(c -> c.stream().mapToInt(PlainHall::height).sum() <= h);
    }

    private void plant(Sheet s, List<List<List<Placed>>> columns) {
        s.nodes = new ArrayList<>();
        s.scored = false;
        byColumns(s.nodes, new Rect(0, 0, s.w, s.h), columns).state = 1;
    }

    private static <T> List<T> tail(List<T> list) {
        return list.subList(1, list.size());
    }

    private static Node leaf(List<Node> nodes, int kind, Rect at, int mark) {
        Node n = new Node();
        n.kind = kind;
        n.at = at;
        n.mark = mark;
        nodes.add(n);
        return n;
    }

    private static Node byColumns(List<Node> nodes, Rect at, List<List<List<Placed>>> columns) {
        if (columns.isEmpty()) {
            return leaf(nodes, 3, at, NONE);
        }
        int w = width(columns.get(0));
        if (w >= at.w) {
            return byRows(nodes, at, columns.get(0));
        }
        Node n = leaf(nodes, 0, at, w);
        n.first = byRows(nodes, new Rect(at.x, at.y, w, at.h), columns.get(0));
        n.second = byColumns(nodes, new Rect(at.x + w, at.y, at.w - w, at.h), tail(columns));
        return n;
    }

    private static Node byRows(List<Node> nodes, Rect at, List<List<Placed>> rows) {
        if (rows.isEmpty()) {
            return leaf(nodes, 3, at, NONE);
        }
        int h = height(rows.get(0));
        if (h >= at.h) {
            return byPanes(nodes, at, rows.get(0));
        }
        Node n = leaf(nodes, 1, at, h);
        n.first = byPanes(nodes, new Rect(at.x, at.y, at.w, h), rows.get(0));
        n.second = byRows(nodes, new Rect(at.x, at.y + h, at.w, at.h - h), tail(rows));
        return n;
    }

    private static Node byPanes(List<Node> nodes, Rect at, List<Placed> panes) {
        if (panes.isEmpty()) {
            return leaf(nodes, 3, at, NONE);
        }
        int w = panes.get(0).w;
        if (w >= at.w) {
            return cell(nodes, at, panes.get(0));
        }
        Node n = leaf(nodes, 0, at, w);
        n.first = cell(nodes, new Rect(at.x, at.y, w, at.h), panes.get(0));
        n.second = byPanes(nodes, new Rect(at.x + w, at.y, at.w - w, at.h), tail(panes));
        return n;
    }

    private static Node cell(List<Node> nodes, Rect at, Placed pane) {
        if (pane.h >= at.h) {
            return leaf(nodes, 2, at, pane.order);
        }
        Node n = leaf(nodes, 1, at, pane.h);
        n.first = leaf(nodes, 2, new Rect(at.x, at.y, at.w, pane.h), pane.order);
        n.second = leaf(nodes, 3, new Rect(at.x, at.y + pane.h, at.w, at.h - pane.h), NONE);
        return n;
    }

    @Override
    public int node(int id, int i, int what) {
        Sheet s = planned(id);
        Node n = s.nodes.get(i);
        argue(what < 0 || what > 8);
        int[] told = {
            n.kind, n.at.x, n.at.y, n.at.w, n.at.h, n.mark,
            s.nodes.indexOf(n.first), s.nodes.indexOf(n.second), n.state,
        };
        return told[what];
    }

    @Override
    public int nodes(int id) {
        return planned(id).nodes.size();
    }

    @Override
    public int score(int id) {
        Sheet s = planned(id);
        s.scored = true;
        for (int i = 0; i < s.nodes.size(); i++) {
            Node n = s.nodes.get(i);
            if (n.state == 1 && n.kind <= 1) {
                n.state = 2;
                become(s, n.first);
                become(s, n.second);
                endIfNothingWaits(s);
                return i;
            }
        }
        become(s, s.nodes.get(0));
        endIfNothingWaits(s);
        return 0;
    }

    private void become(Sheet s, Node n) {
        n.state = n.kind <= 1 ? 1 : 2;
        if (n.kind == 2) {
            orders.get(n.mark).move(1, 2);
            account[1] += n.at.area();
        } else if (n.kind == 3 && n.at.w >= 300 && n.at.h >= 300 && rack.size() < 10) {
            rack.add(offcut(s, n.at));
        } else if (n.kind == 3) {
            account[3] += n.at.area();
        }
    }

    private static Sheet offcut(Sheet s, Rect at) {
        Sheet o = new Sheet();
        o.w = at.w;
        o.h = at.h;
        for (Rect f : s.flaws) {
            if (f.meets(at)) {
                int x = Math.max(f.x, at.x);
                int y = Math.max(f.y, at.y);
                int w = Math.min(f.x + f.w, at.x + at.w) - x;
                int h = Math.min(f.y + f.h, at.y + at.h) - y;
                o.flaws.add(new Rect(x - at.x, y - at.y, w, h));
            }
        }
        return o;
    }

    private void endIfNothingWaits(Sheet s) {
        if (s.nodes.stream().noneMatch(n -> n.state == 1)) {
            sheets.remove(s);
        }
    }

    @Override
    public int broke(int id, int node) {
        Sheet s = planned(id);
        Node n = s.nodes.get(node);
        state(n.state != 1);
        account[4] += n.at.area();
        int count = reopen(n);
        endIfNothingWaits(s);
        return count;
    }

    private int reopen(Node n) {
        if (n == null) {
            return 0;
        }
        n.state = 3;
        if (n.kind == 2) {
            orders.get(n.mark).move(1, 0);
            return 1;
        }
        return reopen(n.first) + reopen(n.second);
    }

    @Override
    public int cancel(int id) {
        Sheet s = planned(id);
        state(s.scored);
        int count = reopen(s.nodes.get(0));
        s.nodes = null;
        return count;
    }

    private Sheet offcut(int k) {
        there(k >= 0 && k < rack.size());
        return rack.get(k);
    }

    @Override
    public int use(int k) {
        Sheet o = offcut(k);
        state(sheets.size() == 8);
        rack.remove(k);
        return enter(o);
    }

    @Override
    public int rack(int k, int what) {
        Sheet o = offcut(k);
        argue(what < 0 || what > 2);
        return what == 0 ? o.w : what == 1 ? o.h : o.flaws.size();
    }

    @Override
    public int fit(int w, int h) {
        return rack.stream().filter(o -> o.w >= w && o.h >= h || o.h >= w && o.w >= h)
                .min(Comparator.comparingInt((Sheet o) -> o.w * o.h).thenComparingInt(rack::indexOf)).map(rack::indexOf)
                .orElse(NONE);
    }

    @Override
    public int flawed(int id, int k, int what) {
        Rect f = find(id).flaws.get(k);
        argue(what < 0 || what > 3);
        return new int[] {f.x, f.y, f.w, f.h}[what];
    }

    @Override
    public int panes(int order, int what) {
        there(order >= 0 && order < orders.size());
        argue(what < 0 || what > 2);
        return orders.get(order).count(what);
    }

    @Override
    public long area(int kind) {
        switch (kind) {
            case 0:
                return sheets.stream().filter(s -> s.nodes == null).mapToLong(s -> (long) s.w * s.h).sum();
            case 2:
                return rack.stream().mapToLong(o -> (long) o.w * o.h).sum();
            case 5:
                return sheets.stream().filter(s -> s.nodes != null).flatMap(s -> s.nodes.stream())
                        .filter(n -> n.state == 1).mapToLong(n -> n.at.area()).sum();
            default:
                return kind >= 0 && kind <= 6 ? account[kind] : 0;
        }
    }

    @Override
    public int total(int what) {
        int planned = (int) sheets.stream().filter(s -> s.nodes != null).count();
        int[] told = {sheets.size(), planned, orders.size(), rack.size(), ids};
        return what >= 0 && what < told.length ? told[what] : NONE;
    }
}
