import java.util.NoSuchElementException;

/** A hall where panes are cut from flawed sheets of glass, by cuts from edge to edge. */
public final class GlassHall {
    public static final int NONE = -1;

    private static final int LONGEST = 6000;
    private static final int MOST_SHEETS = 8;
    private static final int MOST_FLAWS = 6;
    private static final int MOST_ORDERS = 6;
    private static final int MOST_ALIKE = 6;
    private static final int MOST_PANES = MOST_ORDERS * MOST_ALIKE;
    private static final int MOST_NAMED = 3;
    private static final int MOST_OFFCUTS = 10;
    private static final int LEAST_OFFCUT = 300;

    // Strips need two cuts a pane at most: one above it, and one beside it or beside its column.
    // A trial has four a pane at most, but of three panes only. Each cut adds two nodes.
    private static final int MOST_NODES = 1 + 2 * (2 * MOST_PANES);

    private static final int CROSSWAYS = 0;
    private static final int LENGTHWAYS = 1;
    private static final int PANE = 2;
    private static final int REST = 3;

    private static final int TO_COME = 0;
    private static final int WAITS = 1;
    private static final int OVER = 2;
    private static final int BROKEN = 3;

    private final Sheet[] slots = new Sheet[MOST_SHEETS];
    private final OrderBook book = new OrderBook();
    private final Rack offcuts = new Rack();
    private final Layout layout = new Layout();
    private final Strips strips = new Strips(book, layout);
    private final Trial trial = new Trial(book, layout);
    private int sheetsEver;
    private long madeArea;
    private long doneArea;
    private long wasteArea;
    private long brokenArea;

    public GlassHall() {
        for (int i = 0; i < MOST_SHEETS; i++) {
            slots[i] = new Sheet();
        }
    }

    public int sheet(int w, int h) throws IllegalArgumentException, IllegalStateException {
        if (!isLength(w) || !isLength(h)) {
            throw new IllegalArgumentException();
        }
        Sheet slot = findFreeSlot();
        if (slot == null) {
            throw new IllegalStateException();
        }
        slot.glass.become(w, h);
        madeArea += slot.glass.surface();
        return bringIn(slot);
    }

    public int flaw(int id, int x, int y, int w, int h)
            throws NoSuchElementException, IllegalArgumentException, IllegalStateException {
        Sheet found = findSheet(id);
        Glass glass = found.glass;
        if (w < 1 || h < 1 || !liesIn(x, w, glass.wide) || !liesIn(y, h, glass.high)) {
            throw new IllegalArgumentException();
        }
        if (found.tree.isGrown() || glass.flaws >= MOST_FLAWS) {
            throw new IllegalStateException();
        }
        glass.addFlaw(x, y, w, h);
        return glass.flaws;
    }

    public int order(int w, int h, boolean turn, int n) throws IllegalArgumentException, IllegalStateException {
        if (!isLength(w) || !isLength(h) || n < 1 || n > MOST_ALIKE) {
            throw new IllegalArgumentException();
        }
        if (book.size >= MOST_ORDERS) {
            throw new IllegalStateException();
        }
        return book.add(new Order(w, h, turn, n));
    }

    public int plan(int id) throws NoSuchElementException, IllegalStateException {
        Sheet found = findSheet(id);
        if (found.tree.isGrown()) {
            throw new IllegalStateException();
        }
        strips.fill(found.glass);
        return adoptLayout(found);
    }

    public int exact(int id, int a, int b, int c) throws NoSuchElementException, IllegalStateException {
        Sheet found = findSheet(id);
        trial.callNames(a, b, c);
        if (!trial.namesAreThere()) {
            throw new NoSuchElementException();
        }
        if (found.tree.isGrown() || found.glass.flaws > 0 || !trial.namesAreOpen()) {
            throw new IllegalStateException();
        }
        trial.fill(found.glass);
        return adoptLayout(found);
    }

    public int node(int id, int i, int what)
            throws NoSuchElementException, IllegalStateException, IndexOutOfBoundsException, IllegalArgumentException {
        Tree tree = findPlanned(id).tree;
        if (!tree.has(i)) {
            throw new IndexOutOfBoundsException();
        }
        if (what < 0 || what > 8) {
            throw new IllegalArgumentException();
        }
        return tree.tell(i, what);
    }

    public int nodes(int id) throws NoSuchElementException, IllegalStateException {
        return findPlanned(id).tree.size;
    }

    public int score(int id) throws NoSuchElementException, IllegalStateException {
        Sheet found = findPlanned(id);
        Tree tree = found.tree;
        // All that wait are cuts, but for a whole sheet that is a pane: the first that waits is the one.
        int i = tree.firstWaiting();
        if (!tree.has(i)) {
            return NONE;
        }
        if (tree.isCut(i)) {
            tree.state[i] = OVER;
            letWait(found, i + 1);
            letWait(found, tree.second[i]);
        } else {
            letWait(found, i);
        }
        clearAwayIfEmpty(found);
        return i;
    }

    public int broke(int id, int node) throws NoSuchElementException, IllegalStateException, IndexOutOfBoundsException {
        Sheet found = findPlanned(id);
        Tree tree = found.tree;
        if (!tree.has(node)) {
            throw new IndexOutOfBoundsException();
        }
        if (tree.state[node] != WAITS) {
            throw new IllegalStateException();
        }
        brokenArea += tree.surface(node);
        int reopened = reopenPanes(tree, node);
        tree.breakFrom(node);
        clearAwayIfEmpty(found);
        return reopened;
    }

    public int cancel(int id) throws NoSuchElementException, IllegalStateException {
        Tree tree = findPlanned(id).tree;
        // A whole sheet that breaks is gone at once, so one that does not wait was scored.
        if (tree.state[0] != WAITS) {
            throw new IllegalStateException();
        }
        int reopened = reopenPanes(tree, 0);
        tree.clear();
        return reopened;
    }

    public int use(int k) throws NoSuchElementException, IllegalStateException {
        Glass offcut = findOffcut(k);
        Sheet slot = findFreeSlot();
        if (slot == null) {
            throw new IllegalStateException();
        }
        slot.glass.becomePart(offcut, 0, 0, offcut.wide, offcut.high);
        offcuts.remove(k);
        return bringIn(slot);
    }

    public int rack(int k, int what) throws NoSuchElementException, IllegalArgumentException {
        Glass offcut = findOffcut(k);
        switch (what) {
            case 0:
                return offcut.wide;
            case 1:
                return offcut.high;
            case 2:
                return offcut.flaws;
            default:
                throw new IllegalArgumentException();
        }
    }

    public int fit(int w, int h) {
        return offcuts.smallestFor(w, h);
    }

    public int flawed(int id, int k, int what)
            throws NoSuchElementException, IndexOutOfBoundsException, IllegalArgumentException {
        Glass glass = findSheet(id).glass;
        if (k < 0 || k >= glass.flaws) {
            throw new IndexOutOfBoundsException();
        }
        switch (what) {
            case 0:
                return glass.flawX[k];
            case 1:
                return glass.flawY[k];
            case 2:
                return glass.flawWide[k];
            case 3:
                return glass.flawHigh[k];
            default:
                throw new IllegalArgumentException();
        }
    }

    public int panes(int order, int what) throws NoSuchElementException, IllegalArgumentException {
        Order found = book.at(order);
        if (found == null) {
            throw new NoSuchElementException();
        }
        switch (what) {
            case 0:
                return found.open;
            case 1:
                return found.planned;
            case 2:
                return found.done;
            default:
                throw new IllegalArgumentException();
        }
    }

    public long area(int kind) {
        switch (kind) {
            case 0:
                return unplannedArea();
            case 1:
                return doneArea;
            case 2:
                return offcuts.surface();
            case 3:
                return wasteArea;
            case 4:
                return brokenArea;
            case 5:
                return waitingArea();
            case 6:
                return madeArea;
            default:
                return 0;
        }
    }

    public int total(int what) {
        switch (what) {
            case 0:
                return countSheets(false);
            case 1:
                return countSheets(true);
            case 2:
                return book.size;
            case 3:
                return offcuts.size;
            case 4:
                return sheetsEver;
            default:
                return NONE;
        }
    }

    private static boolean isLength(int n) {
        return n >= 1 && n <= LONGEST;
    }

    // Written with a difference, as a sum of two large numbers would wrap around.
    private static boolean liesIn(int from, int length, int whole) {
        return from >= 0 && from <= whole - length;
    }

    private Sheet findFreeSlot() {
        for (Sheet slot : slots) {
            if (!slot.there) {
                return slot;
            }
        }
        return null;
    }

    private Sheet findSheet(int id) throws NoSuchElementException {
        for (Sheet slot : slots) {
            if (slot.there && slot.id == id) {
                return slot;
            }
        }
        throw new NoSuchElementException();
    }

    private Sheet findPlanned(int id) throws NoSuchElementException, IllegalStateException {
        Sheet found = findSheet(id);
        if (!found.tree.isGrown()) {
            throw new IllegalStateException();
        }
        return found;
    }

    private Glass findOffcut(int k) throws NoSuchElementException {
        if (!offcuts.has(k)) {
            throw new NoSuchElementException();
        }
        return offcuts.row[k];
    }

    private int bringIn(Sheet slot) {
        slot.there = true;
        slot.id = sheetsEver;
        sheetsEver++;
        return slot.id;
    }

    private int adoptLayout(Sheet sheet) {
        if (layout.size == 0) {
            return 0;
        }
        sheet.tree.grow(layout, sheet.glass.wide, sheet.glass.high);
        for (int i = 0; i < layout.size; i++) {
            book.takeUp(layout.orderOf[i]);
        }
        return layout.size;
    }

    private void letWait(Sheet sheet, int i) {
        Tree tree = sheet.tree;
        if (!tree.has(i)) {
            return;
        }
        tree.state[i] = tree.isCut(i) ? WAITS : OVER;
        if (tree.kind[i] == PANE) {
            book.finish(tree.mark[i]);
            doneArea += tree.surface(i);
        } else if (tree.kind[i] == REST) {
            putAway(sheet, i);
        }
    }

    private void putAway(Sheet sheet, int i) {
        Tree tree = sheet.tree;
        boolean large = tree.wide[i] >= LEAST_OFFCUT && tree.high[i] >= LEAST_OFFCUT;
        if (large && offcuts.size < MOST_OFFCUTS) {
            offcuts.addPart(sheet.glass, tree.x[i], tree.y[i], tree.wide[i], tree.high[i]);
        } else {
            wasteArea += tree.surface(i);
        }
    }

    private int reopenPanes(Tree tree, int from) {
        int end = tree.endOf(from);
        int reopened = 0;
        for (int i = from; i < end; i++) {
            if (tree.kind[i] == PANE) {
                book.reopen(tree.mark[i]);
                reopened++;
            }
        }
        return reopened;
    }

    private void clearAwayIfEmpty(Sheet sheet) {
        if (sheet.tree.firstWaiting() == NONE) {
            sheet.tree.clear();
            sheet.there = false;
        }
    }

    private long unplannedArea() {
        long sum = 0;
        for (Sheet slot : slots) {
            if (slot.there && !slot.tree.isGrown()) {
                sum += slot.glass.surface();
            }
        }
        return sum;
    }

    private long waitingArea() {
        long sum = 0;
        for (Sheet slot : slots) {
            sum += slot.tree.waitingSurface();
        }
        return sum;
    }

    private int countSheets(boolean plannedOnly) {
        int count = 0;
        for (Sheet slot : slots) {
            if (slot.there && (!plannedOnly || slot.tree.isGrown())) {
                count++;
            }
        }
        return count;
    }

    /** A rectangle of glass with its flaws: a sheet's or an offcut's. */
    private static final class Glass {
        final int[] flawX = new int[MOST_FLAWS];
        final int[] flawY = new int[MOST_FLAWS];
        final int[] flawWide = new int[MOST_FLAWS];
        final int[] flawHigh = new int[MOST_FLAWS];
        int wide;
        int high;
        int flaws;

        void become(int w, int h) {
            wide = w;
            high = h;
            flaws = 0;
        }

        void becomePart(Glass whole, int x, int y, int w, int h) {
            become(w, h);
            for (int k = 0; k < whole.flaws; k++) {
                int left = Math.max(x, whole.flawX[k]);
                int right = Math.min(x + w, whole.flawX[k] + whole.flawWide[k]);
                int lower = Math.max(y, whole.flawY[k]);
                int upper = Math.min(y + h, whole.flawY[k] + whole.flawHigh[k]);
                if (left < right && lower < upper) {
                    addFlaw(left - x, lower - y, right - left, upper - lower);
                }
            }
        }

        void addFlaw(int x, int y, int w, int h) {
            if (flaws >= MOST_FLAWS) {
                return;
            }
            flawX[flaws] = x;
            flawY[flaws] = y;
            flawWide[flaws] = w;
            flawHigh[flaws] = h;
            flaws++;
        }

        boolean isClear(int x, int y, int w, int h) {
            for (int k = 0; k < flaws; k++) {
                boolean beside = x + w <= flawX[k] || flawX[k] + flawWide[k] <= x;
                boolean above = y + h <= flawY[k] || flawY[k] + flawHigh[k] <= y;
                if (!beside && !above) {
                    return false;
                }
            }
            return true;
        }

        long surface() {
            return (long) wide * high;
        }
    }

    /** A place for a sheet; while its tree is grown, the sheet is planned. */
    private static final class Sheet {
        final Glass glass = new Glass();
        final Tree tree = new Tree();
        boolean there;
        int id;
    }

    /** The offcuts, in the order in which they came. */
    private static final class Rack {
        final Glass[] row = new Glass[MOST_OFFCUTS];
        int size;

        Rack() {
            for (int k = 0; k < MOST_OFFCUTS; k++) {
                row[k] = new Glass();
            }
        }

        boolean has(int k) {
            return k >= 0 && k < size;
        }

        void addPart(Glass whole, int x, int y, int w, int h) {
            if (size < MOST_OFFCUTS) {
                row[size].becomePart(whole, x, y, w, h);
                size++;
            }
        }

        void remove(int k) {
            if (!has(k)) {
                return;
            }
            Glass freed = row[k];
            for (int i = k; i + 1 < size; i++) {
                row[i] = row[i + 1];
            }
            size--;
            row[size] = freed;
        }

        int smallestFor(int w, int h) {
            int best = NONE;
            for (int k = 0; k < size; k++) {
                Glass offcut = row[k];
                boolean straight = offcut.wide >= w && offcut.high >= h;
                boolean turned = offcut.wide >= h && offcut.high >= w;
                if ((straight || turned) && (best == NONE || offcut.surface() < row[best].surface())) {
                    best = k;
                }
            }
            return best;
        }

        long surface() {
            long sum = 0;
            for (int k = 0; k < size; k++) {
                sum += row[k].surface();
            }
            return sum;
        }
    }

    /** Panes that are all alike; each is open, planned or done. */
    private static final class Order {
        final int wide;
        final int high;
        final boolean turns;
        int open;
        int planned;
        int done;

        Order(int wide, int high, boolean turns, int open) {
            this.wide = wide;
            this.high = high;
            this.turns = turns;
            this.open = open;
        }

        boolean goesBefore(Order other) {
            return high != other.high ? high > other.high : wide > other.wide;
        }
    }

    /** The orders by their numbers, and ranked as strips take them. */
    private static final class OrderBook {
        final Order[] orders = new Order[MOST_ORDERS];
        final int[] ranked = new int[MOST_ORDERS];
        int size;

        Order at(int number) {
            return number >= 0 && number < size ? orders[number] : null;
        }

        int add(Order order) {
            if (size >= MOST_ORDERS) {
                return NONE;
            }
            int number = size;
            int rank = number;
            while (rank > 0 && order.goesBefore(orders[ranked[rank - 1]])) {
                ranked[rank] = ranked[rank - 1];
                rank--;
            }
            ranked[rank] = number;
            orders[number] = order;
            size++;
            return number;
        }

        void takeUp(int number) {
            Order order = at(number);
            if (order != null) {
                order.open--;
                order.planned++;
            }
        }

        void reopen(int number) {
            Order order = at(number);
            if (order != null) {
                order.planned--;
                order.open++;
            }
        }

        void finish(int number) {
            Order order = at(number);
            if (order != null) {
                order.planned--;
                order.done++;
            }
        }
    }

    /** Panes with their columns and rows, in the order in which they were put down. */
    private static final class Layout {
        final int[] orderOf = new int[MOST_PANES];
        final int[] wide = new int[MOST_PANES];
        final int[] high = new int[MOST_PANES];
        final int[] column = new int[MOST_PANES];
        final int[] row = new int[MOST_PANES];
        int size;

        void clear() {
            size = 0;
        }

        void put(int order, int w, int h, int c, int r) {
            if (size >= MOST_PANES) {
                return;
            }
            orderOf[size] = order;
            wide[size] = w;
            high[size] = h;
            column[size] = c;
            row[size] = r;
            size++;
        }

        void dropLast() {
            if (size > 0) {
                size--;
            }
        }

        boolean isIn(int i, int c, int r) {
            return column[i] == c && row[i] == r;
        }

        int countOf(int order) {
            int count = 0;
            for (int i = 0; i < size; i++) {
                if (orderOf[i] == order) {
                    count++;
                }
            }
            return count;
        }

        int columns() {
            int count = 0;
            for (int i = 0; i < size; i++) {
                count = Math.max(count, column[i] + 1);
            }
            return count;
        }

        int rowsIn(int c) {
            int count = 0;
            for (int i = 0; i < size; i++) {
                if (column[i] == c) {
                    count = Math.max(count, row[i] + 1);
                }
            }
            return count;
        }

        int rowWidth(int c, int r) {
            int sum = 0;
            for (int i = 0; i < size; i++) {
                if (isIn(i, c, r)) {
                    sum += wide[i];
                }
            }
            return sum;
        }

        int rowHeight(int c, int r) {
            int most = 0;
            for (int i = 0; i < size; i++) {
                if (isIn(i, c, r)) {
                    most = Math.max(most, high[i]);
                }
            }
            return most;
        }

        int columnWidth(int c) {
            int most = 0;
            int rows = rowsIn(c);
            for (int r = 0; r < rows; r++) {
                most = Math.max(most, rowWidth(c, r));
            }
            return most;
        }

        int columnHeight(int c) {
            int sum = 0;
            int rows = rowsIn(c);
            for (int r = 0; r < rows; r++) {
                sum += rowHeight(c, r);
            }
            return sum;
        }

        boolean fitsOn(Glass glass) {
            int sum = 0;
            int columns = columns();
            for (int c = 0; c < columns; c++) {
                if (columnHeight(c) > glass.high) {
                    return false;
                }
                sum += columnWidth(c);
            }
            return sum <= glass.wide;
        }
    }

    /** Fills the layout strip by strip; its numbers are those of the spot where it is. */
    private static final class Strips {
        private final OrderBook book;
        private final Layout layout;
        private int column;
        private int row;
        private int x;
        private int y;
        private int room;

        Strips(OrderBook book, Layout layout) {
            this.book = book;
            this.layout = layout;
        }

        void fill(Glass glass) {
            layout.clear();
            x = 0;
            for (int c = 0; c < MOST_PANES; c++) {
                column = c;
                int wide = stackColumn(glass);
                if (wide == 0) {
                    return;
                }
                x += wide;
            }
        }

        private int stackColumn(Glass glass) {
            int wide = 0;
            y = 0;
            room = glass.wide - x;
            for (int r = 0; r < MOST_PANES; r++) {
                row = r;
                int taken = layout.size;
                if (taken >= MOST_PANES || !takeFirst(glass)) {
                    return wide;
                }
                if (r == 0) {
                    wide = layout.wide[taken];
                    room = wide;
                }
                y += layout.high[taken];
            }
            return wide;
        }

        private boolean takeFirst(Glass glass) {
            for (int k = 0; k < book.size; k++) {
                if (take(glass, book.ranked[k], false) || take(glass, book.ranked[k], true)) {
                    return true;
                }
            }
            return false;
        }

        private boolean take(Glass glass, int number, boolean turned) {
            Order order = book.at(number);
            if (order == null || order.open <= layout.countOf(number) || turned && !order.turns) {
                return false;
            }
            int w = turned ? order.high : order.wide;
            int h = turned ? order.wide : order.high;
            if (w > room || h > glass.high - y || !glass.isClear(x, y, w, h)) {
                return false;
            }
            layout.put(number, w, h, column, row);
            return true;
        }
    }

    /** Fills the layout with the first one that fits of the panes that are named. */
    private static final class Trial {
        private final OrderBook book;
        private final Layout layout;
        private final int[] named = new int[MOST_NAMED];
        private int names;

        Trial(OrderBook book, Layout layout) {
            this.book = book;
            this.layout = layout;
        }

        void callNames(int a, int b, int c) {
            named[0] = a;
            names = 1;
            addName(b);
            addName(c);
        }

        private void addName(int number) {
            if (number != NONE && names < MOST_NAMED) {
                named[names] = number;
                names++;
            }
        }

        boolean namesAreThere() {
            for (int i = 0; i < names; i++) {
                if (book.at(named[i]) == null) {
                    return false;
                }
            }
            return true;
        }

        boolean namesAreOpen() {
            for (int i = 0; i < names; i++) {
                Order order = book.at(named[i]);
                if (order == null || order.open < timesNamed(named[i])) {
                    return false;
                }
            }
            return true;
        }

        private int timesNamed(int number) {
            int count = 0;
            for (int i = 0; i < names; i++) {
                if (named[i] == number) {
                    count++;
                }
            }
            return count;
        }

        void fill(Glass glass) {
            layout.clear();
            placeFrom(glass, 0);
        }

        // Columns and rows come up in the order of naming: any other order fits just as well, but has greater numbers.
        private boolean placeFrom(Glass glass, int i) {
            if (i >= names) {
                return true;
            }
            int columns = layout.columns();
            for (int c = 0; c <= columns; c++) {
                int rows = layout.rowsIn(c);
                for (int r = 0; r <= rows; r++) {
                    if (placeAt(glass, i, c, r, false) || placeAt(glass, i, c, r, true)) {
                        return true;
                    }
                }
            }
            return false;
        }

        // What does not fit now never will, as a pane more makes no column and no row smaller.
        private boolean placeAt(Glass glass, int i, int c, int r, boolean turned) {
            Order order = book.at(named[i]);
            if (order == null || turned && !order.turns) {
                return false;
            }
            layout.put(named[i], turned ? order.high : order.wide, turned ? order.wide : order.high, c, r);
            if (layout.fitsOn(glass) && placeFrom(glass, i + 1)) {
                return true;
            }
            layout.dropLast();
            return false;
        }
    }

    /** The pieces of a planned sheet; a cut's first part is the node after it. */
    private static final class Tree {
        final int[] kind = new int[MOST_NODES];
        final int[] x = new int[MOST_NODES];
        final int[] y = new int[MOST_NODES];
        final int[] wide = new int[MOST_NODES];
        final int[] high = new int[MOST_NODES];
        final int[] mark = new int[MOST_NODES];
        final int[] second = new int[MOST_NODES];
        final int[] state = new int[MOST_NODES];
        int size;

        boolean isGrown() {
            return size > 0;
        }

        void clear() {
            size = 0;
        }

        boolean has(int i) {
            return i >= 0 && i < size;
        }

        boolean isCut(int i) {
            return kind[i] == CROSSWAYS || kind[i] == LENGTHWAYS;
        }

        long surface(int i) {
            return (long) wide[i] * high[i];
        }

        void grow(Layout layout, int w, int h) {
            clear();
            int left = 0;
            int columns = layout.columns();
            for (int c = 0; c < columns; c++) {
                int width = layout.columnWidth(c);
                int cut = width < w - left ? add(CROSSWAYS, left, 0, w - left, h, width) : NONE;
                growColumn(layout, c, left, width, h);
                beginSecond(cut);
                left += width;
            }
            addRest(left, 0, w - left, h);
            state[0] = WAITS;
        }

        private void growColumn(Layout layout, int c, int left, int w, int h) {
            int lower = 0;
            int rows = layout.rowsIn(c);
            for (int r = 0; r < rows; r++) {
                int height = layout.rowHeight(c, r);
                int cut = height < h - lower ? add(LENGTHWAYS, left, lower, w, h - lower, height) : NONE;
                growRow(layout, c, r, left, lower, w, height);
                beginSecond(cut);
                lower += height;
            }
            addRest(left, lower, w, h - lower);
        }

        private void growRow(Layout layout, int c, int r, int from, int lower, int w, int h) {
            int left = from;
            int end = from + w;
            for (int i = 0; i < layout.size; i++) {
                if (layout.isIn(i, c, r)) {
                    int width = layout.wide[i];
                    int cut = width < end - left ? add(CROSSWAYS, left, lower, end - left, h, width) : NONE;
                    growCell(layout, i, left, lower, h);
                    beginSecond(cut);
                    left += width;
                }
            }
            addRest(left, lower, end - left, h);
        }

        private void growCell(Layout layout, int i, int left, int lower, int h) {
            int width = layout.wide[i];
            int height = layout.high[i];
            int cut = height < h ? add(LENGTHWAYS, left, lower, width, h, height) : NONE;
            add(PANE, left, lower, width, height, layout.orderOf[i]);
            beginSecond(cut);
            addRest(left, lower + height, width, h - height);
        }

        private int add(int what, int left, int lower, int w, int h, int at) {
            if (size >= MOST_NODES) {
                return NONE;
            }
            kind[size] = what;
            x[size] = left;
            y[size] = lower;
            wide[size] = w;
            high[size] = h;
            mark[size] = at;
            second[size] = NONE;
            state[size] = TO_COME;
            size++;
            return size - 1;
        }

        private void addRest(int left, int lower, int w, int h) {
            if (w > 0 && h > 0) {
                add(REST, left, lower, w, h, NONE);
            }
        }

        private void beginSecond(int cut) {
            if (cut != NONE) {
                second[cut] = size;
            }
        }

        int firstWaiting() {
            for (int i = 0; i < size; i++) {
                if (state[i] == WAITS) {
                    return i;
                }
            }
            return NONE;
        }

        long waitingSurface() {
            long sum = 0;
            for (int i = 0; i < size; i++) {
                if (state[i] == WAITS) {
                    sum += surface(i);
                }
            }
            return sum;
        }

        // A cut fills one place and leaves two open: with the last one filled, all nodes below have come.
        int endOf(int from) {
            int places = 1;
            int i = from;
            while (i < size && places > 0) {
                places += isCut(i) ? 1 : -1;
                i++;
            }
            return i;
        }

        void breakFrom(int from) {
            int end = endOf(from);
            for (int i = from; i < end; i++) {
                state[i] = BROKEN;
            }
        }

        int tell(int i, int what) {
            switch (what) {
                case 0:
                    return kind[i];
                case 1:
                    return x[i];
                case 2:
                    return y[i];
                case 3:
                    return wide[i];
                case 4:
                    return high[i];
                case 5:
                    return mark[i];
                case 6:
                    return isCut(i) ? i + 1 : NONE;
                case 7:
                    return second[i];
                default:
                    return state[i];
            }
        }
    }
}
