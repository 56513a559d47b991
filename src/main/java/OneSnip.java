import java.util.Arrays;

/** A square sheet, folded flat along lines of a grid and its diagonals, and cut once through all layers. */
public final class OneSnip {
    public static final int UNKNOWN = -1, BAD = -2, STATE = -3, FULL = -4, SPENT = -5, NONE = -99999;

    private static final int LARGEST = 6;
    private static final int MOST_LEAVES = 4 * LARGEST * LARGEST;
    private static final int MOST_FOLDS = 8;
    private static final int LONGEST_WAY = 3;
    private static final int MOST_ROWS = 3000;

    private final Sheet sheet;
    private final Pile pile;
    private final Creases creases;
    private final Snip snip;
    private final Figure figure;
    private final Search search;
    private int knife;

    public OneSnip() {
        sheet = new Sheet();
        pile = new Pile(sheet);
        creases = new Creases(sheet, pile);
        snip = new Snip(sheet);
        figure = new Figure(sheet);
        search = new Search(sheet, figure);
        knife = MOST_LEAVES;
        begin(4);
    }

    // ---- the sheet, folds

    public int sheet(int n) {
        if (n < 1 || n > LARGEST) {
            return BAD;
        }
        int before = sheet.size;
        begin(n);
        return before;
    }

    public int fold(int sort, int k, int side, boolean over) {
        if (!Lines.isLine(sort, k) || !Lines.isSide(side)) {
            return BAD;
        }
        if (snip.made || !pile.isCrossed(sort, k)) {
            return STATE;
        }
        if (pile.made >= MOST_FOLDS) {
            return FULL;
        }
        pile.add(sort, k, side, over);
        return pile.taken();
    }

    public int unfold() {
        if (pile.made == 0) {
            return STATE;
        }
        pile.undo();
        return pile.made;
    }

    public int facet(int facet, int what) {
        if (!sheet.has(facet)) {
            return UNKNOWN;
        }
        switch (what) {
            case 0: return pile.x(facet);
            case 1: return pile.y(facet);
            case 2: return pile.quarter(facet);
            case 3: return pile.layer(facet);
            case 4: return yes(pile.isUp(facet));
            case 5: return pile.heightOver(facet);
            case 6: return yes(snip.isDown(facet));
            case 7: return yes(figure.has(facet));
            default: return BAD;
        }
    }

    public int at(int x, int y, int quarter, int layer) {
        if (quarter < 0 || quarter > 3) {
            return BAD;
        }
        return pile.find(x, y, quarter, layer);
    }

    public int places() {
        return pile.taken();
    }

    public int deepest() {
        return pile.highest();
    }

    public int reach(int what) {
        switch (what) {
            case 0: return pile.leastX();
            case 1: return pile.greatestX();
            case 2: return pile.leastY();
            case 3: return pile.greatestY();
            default: return BAD;
        }
    }

    public int folds() {
        return pile.made;
    }

    // ---- creases

    public int crease(int facet, int edge) {
        if (!sheet.has(facet)) {
            return UNKNOWN;
        }
        return isEdge(edge) ? creases.kind(facet, edge) : BAD;
    }

    public int neighbour(int facet, int edge) {
        if (!sheet.has(facet)) {
            return UNKNOWN;
        }
        return isEdge(edge) ? sheet.beside(facet, edge) : BAD;
    }

    public int creases(boolean mountain) {
        return creases.total(mountain ? Creases.MOUNTAIN : Creases.VALLEY);
    }

    public int balance(int x, int y, boolean half) {
        if (!sheet.hasPoint(x, y, half)) {
            return BAD;
        }
        return creases.ending(Creases.MOUNTAIN, x, y, half) - creases.ending(Creases.VALLEY, x, y, half);
    }

    public int degree(int x, int y, boolean half) {
        if (!sheet.hasPoint(x, y, half)) {
            return BAD;
        }
        return creases.ending(Creases.MOUNTAIN, x, y, half) + creases.ending(Creases.VALLEY, x, y, half);
    }

    // ---- the cut

    public int knife(int n) {
        if (n < 1 || n > MOST_LEAVES) {
            return BAD;
        }
        int before = knife;
        knife = n;
        return before;
    }

    public int thickness(int sort, int k) {
        return Lines.isLine(sort, k) ? pile.heightOn(sort, k) : BAD;
    }

    public int would(int sort, int k, int side) {
        if (!Lines.isLine(sort, k) || !Lines.isSide(side)) {
            return BAD;
        }
        return pile.lying(sort, k, side);
    }

    public int cut(int sort, int k, int side) {
        if (!Lines.isLine(sort, k) || !Lines.isSide(side)) {
            return BAD;
        }
        if (snip.made) {
            return STATE;
        }
        if (pile.heightOn(sort, k) > knife) {
            return FULL;
        }
        snip.drop(pile, sort, k, side);
        return snip.fallen;
    }

    public int pieces(boolean left) {
        return snip.total(!left);
    }

    public int holes() {
        return snip.inner();
    }

    public int rims(boolean slant) {
        return slant ? snip.border(1) + snip.border(2) : snip.border(0);
    }

    public int piece(int facet) {
        return sheet.has(facet) ? snip.leastOf(facet) : UNKNOWN;
    }

    // ---- figures

    public int mark(int facet, boolean is) {
        if (!sheet.has(facet)) {
            return UNKNOWN;
        }
        int before = yes(figure.has(facet));
        draw(facet, is);
        return before;
    }

    public int markCell(int x, int y, boolean is) {
        if (!sheet.hasCell(x, y)) {
            return BAD;
        }
        for (int quarter = 0; quarter < 4; quarter++) {
            draw(sheet.leaf(x, y, quarter), is);
        }
        return figure.total;
    }

    public int take() {
        if (!snip.made) {
            return STATE;
        }
        for (int leaf = 0; leaf < sheet.leaves; leaf++) {
            draw(leaf, snip.isDown(leaf));
        }
        return figure.total;
    }

    public int same() {
        for (int leaf = 0; leaf < sheet.leaves; leaf++) {
            if (figure.has(leaf) != snip.isDown(leaf)) {
                return 0;
            }
        }
        return 1;
    }

    public int mirror(int sort, int k) {
        return Lines.isLine(sort, k) ? yes(figure.isMirror(sort, k)) : BAD;
    }

    public int mirrors() {
        int found = 0;
        for (int sort = 0; sort < Lines.SORTS; sort++) {
            for (int k = Lines.LEAST; k <= Lines.GREATEST; k++) {
                found += yes(figure.isMirror(sort, k));
            }
        }
        return found;
    }

    public int fewest(int f) {
        return isWayLength(f) ? search.solve(f) : BAD;
    }

    public int way(int f, int i) {
        if (!isWayLength(f)) {
            return BAD;
        }
        int length = search.solve(f);
        return length < 0 ? length : search.told(i, length);
    }

    public int ways(int f) {
        if (!isWayLength(f)) {
            return BAD;
        }
        int length = search.solve(f);
        if (length == NONE) {
            return 0;
        }
        return length < 0 ? length : search.found;
    }

    public int count(int what) {
        switch (what) {
            case 0: return sheet.leaves;
            case 1: return snip.fallen;
            case 2: return figure.total;
            case 3: return pile.turnedDown();
            case 4: return sheet.size;
            default: return BAD;
        }
    }

    // ---- inside

    private void begin(int n) {
        sheet.resize(n);
        pile.flatten();
        snip.mend();
        figure.wipe();
        search.forget();
    }

    private void draw(int leaf, boolean is) {
        if (figure.has(leaf) != is) {
            figure.put(leaf, is);
            search.forget();
        }
    }

    private static int yes(boolean is) {
        return is ? 1 : 0;
    }

    private static boolean isEdge(int edge) {
        return edge >= 0 && edge <= 2;
    }

    private static boolean isWayLength(int f) {
        return f >= 0 && f <= LONGEST_WAY;
    }

    /** Rows of numbers, looked at and written only where they have an element. */
    private static final class Rows {
        static int get(int[] row, int i) {
            return row != null && i >= 0 && i < row.length ? row[i] : 0;
        }

        static void put(int[] row, int i, int value) {
            if (row != null && i >= 0 && i < row.length) {
                row[i] = value;
            }
        }

        static void fill(int[] row, int value) {
            if (row != null) {
                Arrays.fill(row, value);
            }
        }
    }

    /** The lines, and what lies where beside them. */
    private static final class Lines {
        static final int SORTS = 4, LEAST = -24, GREATEST = 48;
        static final int SPOTS = 1024;

        static boolean isLine(int sort, int k) {
            return sort >= 0 && sort < SORTS && k >= LEAST && k <= GREATEST;
        }

        static boolean isSide(int side) {
            return side == 0 || side == 1;
        }

        /** Number s of the strip that a place lies in: between the lines s and s + 1 of the sort. */
        static int strip(int sort, int x, int y, int quarter) {
            switch (sort) {
                case 0: return x;
                case 1: return y;
                case 2: return quarter < 2 ? x - y : x - y - 1;
                default: return quarter == 0 || quarter == 3 ? x + y : x + y + 1;
            }
        }

        static boolean isOn(int strip, int k, int side) {
            return side == 0 ? strip < k : strip >= k;
        }

        static int mirrorX(int sort, int k, int x, int y) {
            switch (sort) {
                case 0: return 2 * k - 1 - x;
                case 1: return x;
                case 2: return y + k;
                default: return k - 1 - y;
            }
        }

        static int mirrorY(int sort, int k, int x, int y) {
            switch (sort) {
                case 0: return y;
                case 1: return 2 * k - 1 - y;
                case 2: return x - k;
                default: return k - 1 - x;
            }
        }

        static int mirrorQuarter(int sort, int quarter) {
            switch (sort) {
                case 0: return (4 - quarter) & 3;
                case 1: return (2 - quarter) & 3;
                case 2: return 3 - quarter;
                default: return (1 - quarter) & 3;
            }
        }

        static boolean touches(int sort, int k, int x, int y, int quarter) {
            switch (sort) {
                case 0: return (quarter == 1 && x + 1 == k) || (quarter == 3 && x == k);
                case 1: return (quarter == 2 && y + 1 == k) || (quarter == 0 && y == k);
                case 2: return x - y == k;
                default: return x + y + 1 == k;
            }
        }

        /**
         * A place's index in a table of SPOTS elements. Folding takes no two points further apart, across or up,
         * so all leaves keep within a box of 6 by 6; they and their mirrored places, in a line through that box,
         * are less than 16 cells from each other, and no two of them share an index.
         */
        static int spot(int x, int y, int quarter) {
            return (x & 15) << 6 | (y & 15) << 2 | quarter & 3;
        }
    }

    /** The sheet as it is at first: which leaves there are, where, and which lie side by side. */
    private static final class Sheet {
        private final int[] xs = new int[MOST_LEAVES];
        private final int[] ys = new int[MOST_LEAVES];
        private final int[] besides = new int[3 * MOST_LEAVES];
        private int size;
        private int leaves;

        void resize(int n) {
            size = n;
            leaves = 4 * n * n;
            for (int y = 0; y < n; y++) {
                for (int x = 0; x < n; x++) {
                    for (int quarter = 0; quarter < 4; quarter++) {
                        place(x, y, quarter);
                    }
                }
            }
        }

        private void place(int x, int y, int quarter) {
            int leaf = leaf(x, y, quarter);
            Rows.put(xs, leaf, x);
            Rows.put(ys, leaf, y);
            Rows.put(besides, 3 * leaf, across(x, y, quarter));
            Rows.put(besides, 3 * leaf + 1, leaf(x, y, (quarter + 1) & 3));
            Rows.put(besides, 3 * leaf + 2, leaf(x, y, (quarter + 3) & 3));
        }

        private int across(int x, int y, int quarter) {
            int nextX = x + (quarter == 1 ? 1 : quarter == 3 ? -1 : 0);
            int nextY = y + (quarter == 2 ? 1 : quarter == 0 ? -1 : 0);
            return hasCell(nextX, nextY) ? leaf(nextX, nextY, quarter ^ 2) : NONE;
        }

        boolean has(int leaf) {
            return leaf >= 0 && leaf < leaves;
        }

        boolean hasCell(int x, int y) {
            return x >= 0 && x < size && y >= 0 && y < size;
        }

        boolean hasPoint(int x, int y, boolean half) {
            return half ? hasCell(x, y) : x >= 0 && x <= size && y >= 0 && y <= size;
        }

        int leaf(int x, int y, int quarter) {
            return 4 * (y * size + x) + quarter;
        }

        int x(int leaf) {
            return Rows.get(xs, leaf);
        }

        int y(int leaf) {
            return Rows.get(ys, leaf);
        }

        int quarter(int leaf) {
            return leaf & 3;
        }

        /** In cells, across or up, whichever is more: less than the size for any two leaves. */
        int distance(int leaf, int other) {
            return Math.max(Math.abs(x(leaf) - x(other)), Math.abs(y(leaf) - y(other)));
        }

        int beside(int leaf, int edge) {
            return Rows.get(besides, 3 * leaf + edge);
        }
    }

    /** The leaves as they lie folded, and the folds that brought them there. */
    private static final class Pile {
        private final Sheet sheet;
        private final int[] xs = new int[MOST_LEAVES];
        private final int[] ys = new int[MOST_LEAVES];
        private final int[] quarters = new int[MOST_LEAVES];
        private final int[] layers = new int[MOST_LEAVES];
        private final int[] ups = new int[MOST_LEAVES];
        private final int[] heights = new int[Lines.SPOTS];
        private final int[] sorts = new int[MOST_FOLDS];
        private final int[] ks = new int[MOST_FOLDS];
        private final int[] sides = new int[MOST_FOLDS];
        private final int[] overs = new int[MOST_FOLDS];
        private int made;

        Pile(Sheet sheet) {
            this.sheet = sheet;
        }

        void flatten() {
            made = 0;
            spread();
        }

        void add(int sort, int k, int side, boolean over) {
            Rows.put(sorts, made, sort);
            Rows.put(ks, made, k);
            Rows.put(sides, made, side);
            Rows.put(overs, made, yes(over));
            made++;
            turn(sort, k, side, over);
        }

        /** The folds left are made anew: so nothing need be kept of what lay where before each. */
        void undo() {
            made--;
            spread();
            for (int i = 0; i < made && i < MOST_FOLDS; i++) {
                turn(Rows.get(sorts, i), Rows.get(ks, i), Rows.get(sides, i), Rows.get(overs, i) == 1);
            }
        }

        private void spread() {
            for (int leaf = 0; leaf < sheet.leaves; leaf++) {
                Rows.put(xs, leaf, sheet.x(leaf));
                Rows.put(ys, leaf, sheet.y(leaf));
                Rows.put(quarters, leaf, sheet.quarter(leaf));
                Rows.put(layers, leaf, 0);
                Rows.put(ups, leaf, 1);
            }
            measure();
        }

        private void turn(int sort, int k, int side, boolean over) {
            // Layers ahead of places: they are told by the heights before anything has moved.
            for (int leaf = 0; leaf < sheet.leaves; leaf++) {
                Rows.put(layers, leaf, layerBehind(leaf, sort, k, side, over));
            }
            for (int leaf = 0; leaf < sheet.leaves; leaf++) {
                if (isOn(leaf, sort, k, side)) {
                    flip(leaf, sort, k);
                }
            }
            measure();
        }

        private int layerBehind(int leaf, int sort, int k, int side, boolean over) {
            int opposite = Rows.get(heights, mirrorSpot(leaf, sort, k));
            if (isOn(leaf, sort, k, side)) {
                int turned = heightOver(leaf) - 1 - layer(leaf);
                return over ? opposite + turned : turned;
            }
            return over ? layer(leaf) : opposite + layer(leaf);
        }

        private void flip(int leaf, int sort, int k) {
            int x = Lines.mirrorX(sort, k, x(leaf), y(leaf));
            int y = Lines.mirrorY(sort, k, x(leaf), y(leaf));
            Rows.put(xs, leaf, x);
            Rows.put(ys, leaf, y);
            Rows.put(quarters, leaf, Lines.mirrorQuarter(sort, quarter(leaf)));
            Rows.put(ups, leaf, yes(!isUp(leaf)));
        }

        private void measure() {
            Rows.fill(heights, 0);
            for (int leaf = 0; leaf < sheet.leaves; leaf++) {
                int spot = spot(leaf);
                Rows.put(heights, spot, Rows.get(heights, spot) + 1);
            }
        }

        private int spot(int leaf) {
            return Lines.spot(Rows.get(xs, leaf), Rows.get(ys, leaf), Rows.get(quarters, leaf));
        }

        private int mirrorSpot(int leaf, int sort, int k) {
            int x = Lines.mirrorX(sort, k, x(leaf), y(leaf));
            int y = Lines.mirrorY(sort, k, x(leaf), y(leaf));
            return Lines.spot(x, y, Lines.mirrorQuarter(sort, quarter(leaf)));
        }

        int x(int leaf) {
            return Rows.get(xs, leaf);
        }

        int y(int leaf) {
            return Rows.get(ys, leaf);
        }

        int quarter(int leaf) {
            return Rows.get(quarters, leaf);
        }

        int layer(int leaf) {
            return Rows.get(layers, leaf);
        }

        boolean isUp(int leaf) {
            return Rows.get(ups, leaf) == 1;
        }

        int heightOver(int leaf) {
            return Rows.get(heights, spot(leaf));
        }

        boolean isOn(int leaf, int sort, int k, int side) {
            return Lines.isOn(Lines.strip(sort, x(leaf), y(leaf), quarter(leaf)), k, side);
        }

        int lying(int sort, int k, int side) {
            int found = 0;
            for (int leaf = 0; leaf < sheet.leaves; leaf++) {
                found += yes(isOn(leaf, sort, k, side));
            }
            return found;
        }

        boolean isCrossed(int sort, int k) {
            int lesser = lying(sort, k, 0);
            return lesser > 0 && lesser < sheet.leaves;
        }

        int find(int x, int y, int quarter, int layer) {
            for (int leaf = 0; leaf < sheet.leaves; leaf++) {
                if (x(leaf) == x && y(leaf) == y && quarter(leaf) == quarter && layer(leaf) == layer) {
                    return leaf;
                }
            }
            return NONE;
        }

        /** Each place that is taken has one lowest layer. */
        int taken() {
            int found = 0;
            for (int leaf = 0; leaf < sheet.leaves; leaf++) {
                found += yes(layer(leaf) == 0);
            }
            return found;
        }

        int highest() {
            int most = 0;
            for (int leaf = 0; leaf < sheet.leaves; leaf++) {
                most = Math.max(most, heightOver(leaf));
            }
            return most;
        }

        int heightOn(int sort, int k) {
            int most = 0;
            for (int leaf = 0; leaf < sheet.leaves; leaf++) {
                if (Lines.touches(sort, k, x(leaf), y(leaf), quarter(leaf))) {
                    most = Math.max(most, heightOver(leaf));
                }
            }
            return most;
        }

        int turnedDown() {
            int found = 0;
            for (int leaf = 0; leaf < sheet.leaves; leaf++) {
                found += yes(!isUp(leaf));
            }
            return found;
        }

        int leastX() {
            return least(xs);
        }

        int greatestX() {
            return greatest(xs);
        }

        int leastY() {
            return least(ys);
        }

        int greatestY() {
            return greatest(ys);
        }

        private int least(int[] row) {
            int least = Rows.get(row, 0);
            for (int leaf = 1; leaf < sheet.leaves; leaf++) {
                least = Math.min(least, Rows.get(row, leaf));
            }
            return least;
        }

        private int greatest(int[] row) {
            int greatest = Rows.get(row, 0);
            for (int leaf = 1; leaf < sheet.leaves; leaf++) {
                greatest = Math.max(greatest, Rows.get(row, leaf));
            }
            return greatest;
        }
    }

    /** The creases, read off the leaves as they lie. */
    private static final class Creases {
        static final int FLAT = 0, VALLEY = 1, MOUNTAIN = 2;

        private final Sheet sheet;
        private final Pile pile;

        Creases(Sheet sheet, Pile pile) {
            this.sheet = sheet;
            this.pile = pile;
        }

        /**
         * Leaves that a fold has laid upon each other move together from then on, so which of the two is the
         * lower one, looked at from its front, still tells how the crease was made.
         */
        int kind(int leaf, int edge) {
            int other = sheet.beside(leaf, edge);
            if (other == NONE) {
                return NONE;
            }
            if (pile.isUp(leaf) == pile.isUp(other)) {
                return FLAT;
            }
            int lower = pile.layer(leaf) < pile.layer(other) ? leaf : other;
            return pile.isUp(lower) ? VALLEY : MOUNTAIN;
        }

        int total(int kind) {
            int found = 0;
            for (int leaf = 0; leaf < sheet.leaves; leaf++) {
                for (int edge = 0; edge < 3; edge++) {
                    found += yes(isFirstOf(leaf, edge) && kind(leaf, edge) == kind);
                }
            }
            return found;
        }

        int ending(int kind, int x, int y, boolean half) {
            int twiceX = 2 * x + yes(half);
            int twiceY = 2 * y + yes(half);
            int found = 0;
            for (int leaf = 0; leaf < sheet.leaves; leaf++) {
                for (int edge = 0; edge < 3; edge++) {
                    boolean ends = isFirstOf(leaf, edge) && endsAt(leaf, edge, twiceX, twiceY);
                    found += yes(ends && kind(leaf, edge) == kind);
                }
            }
            return found;
        }

        /** A common edge is met with from both its leaves, and counted with the lesser one. */
        private boolean isFirstOf(int leaf, int edge) {
            return leaf < sheet.beside(leaf, edge);
        }

        private boolean endsAt(int leaf, int edge, int twiceX, int twiceY) {
            int dx = twiceX - 2 * sheet.x(leaf);
            int dy = twiceY - 2 * sheet.y(leaf);
            int quarter = sheet.quarter(leaf);
            boolean far = isCorner(quarter, dx, dy);
            boolean near = isCorner((quarter + 3) & 3, dx, dy);
            boolean middle = dx == 1 && dy == 1;
            if (edge == 0) {
                return far || near;
            }
            return middle || (edge == 1 ? far : near);
        }

        /** Corner 0 is the lower right one, where the lower leaf's outer edge ends; 1, 2, 3 against the clock. */
        private static boolean isCorner(int corner, int dx, int dy) {
            int cornerX = corner == 0 || corner == 1 ? 2 : 0;
            int cornerY = corner == 1 || corner == 2 ? 2 : 0;
            return dx == cornerX && dy == cornerY;
        }
    }

    /** What fell, and how it and what is left hang together. */
    private static final class Snip {
        private final Sheet sheet;
        private final int[] fell = new int[MOST_LEAVES];
        private final int[] leasts = new int[MOST_LEAVES];
        private final int[] queue = new int[MOST_LEAVES];
        private boolean made;
        private int fallen;

        Snip(Sheet sheet) {
            this.sheet = sheet;
        }

        void mend() {
            made = false;
            fallen = 0;
            Rows.fill(fell, 0);
            part();
        }

        void drop(Pile pile, int sort, int k, int side) {
            made = true;
            fallen = 0;
            for (int leaf = 0; leaf < sheet.leaves; leaf++) {
                int falls = yes(pile.isOn(leaf, sort, k, side));
                Rows.put(fell, leaf, falls);
                fallen += falls;
            }
            part();
        }

        boolean isDown(int leaf) {
            return Rows.get(fell, leaf) == 1;
        }

        int leastOf(int leaf) {
            return Rows.get(leasts, leaf);
        }

        /** Leaves are gone through from the least one up, so the first one met with of a piece names it. */
        private void part() {
            Rows.fill(leasts, NONE);
            for (int leaf = 0; leaf < sheet.leaves; leaf++) {
                if (leastOf(leaf) == NONE) {
                    gather(leaf);
                }
            }
        }

        private void gather(int first) {
            Rows.put(leasts, first, first);
            Rows.put(queue, 0, first);
            int end = 1;
            for (int i = 0; i < end && i < MOST_LEAVES; i++) {
                int leaf = Rows.get(queue, i);
                for (int edge = 0; edge < 3; edge++) {
                    int other = sheet.beside(leaf, edge);
                    if (other != NONE && leastOf(other) == NONE && isDown(other) == isDown(leaf)) {
                        Rows.put(leasts, other, first);
                        Rows.put(queue, end, other);
                        end++;
                    }
                }
            }
        }

        int total(boolean down) {
            int found = 0;
            for (int leaf = 0; leaf < sheet.leaves; leaf++) {
                found += yes(leastOf(leaf) == leaf && isDown(leaf) == down);
            }
            return found;
        }

        int inner() {
            int found = 0;
            for (int leaf = 0; leaf < sheet.leaves; leaf++) {
                found += yes(leastOf(leaf) == leaf && isDown(leaf) && !reachesOut(leaf));
            }
            return found;
        }

        private boolean reachesOut(int least) {
            for (int leaf = 0; leaf < sheet.leaves; leaf++) {
                if (leastOf(leaf) == least && sheet.beside(leaf, 0) == NONE) {
                    return true;
                }
            }
            return false;
        }

        /** Counted from the leaf that fell: so each once. */
        int border(int edge) {
            int found = 0;
            for (int leaf = 0; leaf < sheet.leaves; leaf++) {
                int other = sheet.beside(leaf, edge);
                found += yes(other != NONE && isDown(leaf) && !isDown(other));
            }
            return found;
        }
    }

    /** A set of leaves. */
    private static final class Figure {
        private final Sheet sheet;
        private final int[] flags = new int[MOST_LEAVES];
        private int total;

        Figure(Sheet sheet) {
            this.sheet = sheet;
        }

        void wipe() {
            Rows.fill(flags, 0);
            total = 0;
        }

        boolean has(int leaf) {
            return Rows.get(flags, leaf) == 1;
        }

        void put(int leaf, boolean is) {
            total += yes(is) - Rows.get(flags, leaf);
            Rows.put(flags, leaf, yes(is));
        }

        /** The least leaf that is of the figure, or is not; 0 where there is none. */
        int first(boolean drawn) {
            for (int leaf = 0; leaf < sheet.leaves; leaf++) {
                if (has(leaf) == drawn) {
                    return leaf;
                }
            }
            return 0;
        }

        boolean isMirror(int sort, int k) {
            for (int leaf = 0; leaf < sheet.leaves; leaf++) {
                int x = Lines.mirrorX(sort, k, sheet.x(leaf), sheet.y(leaf));
                int y = Lines.mirrorY(sort, k, sheet.x(leaf), sheet.y(leaf));
                int quarter = Lines.mirrorQuarter(sort, sheet.quarter(leaf));
                if (!sheet.hasCell(x, y) || has(sheet.leaf(x, y, quarter)) != has(leaf)) {
                    return false;
                }
            }
            return true;
        }
    }

    /** Folds and a cut for the figure: rows of one fold, of two, of three, until there is a way. */
    private static final class Search {
        private final Sheet sheet;
        private final Figure figure;
        private final Layout start = new Layout(new Layout(new Layout(new Layout(null))));
        private final int[] row = new int[LONGEST_WAY];
        private final int[] first = new int[LONGEST_WAY + 1];
        private int goal;
        private boolean counting;
        private int rows;
        private int found;
        private int foundAt;
        private int spentAt;
        private int tried;

        Search(Sheet sheet, Figure figure) {
            this.sheet = sheet;
            this.figure = figure;
        }

        void forget() {
            tried = 0;
            rows = 0;
            found = 0;
            foundAt = NONE;
            spentAt = NONE;
        }

        /** The fewest folds of a way; what a call found out is kept until the figure changes. */
        int solve(int most) {
            if (tried == 0) {
                start.load(sheet, figure);
            }
            for (; tried <= most && foundAt == NONE && spentAt == NONE; tried++) {
                tryRows(tried);
            }
            if (spentAt != NONE && spentAt <= most) {
                return SPENT;
            }
            return foundAt <= most ? foundAt : NONE;
        }

        int told(int i, int length) {
            return i >= 0 && i <= length ? Rows.get(first, i) : NONE;
        }

        /** Rows are counted first: where there are too many, none needs to be looked at. */
        private void tryRows(int length) {
            goal = length;
            counting = true;
            lengthen(this, start, 0);
            if (rows > MOST_ROWS) {
                spentAt = length;
                return;
            }
            counting = false;
            lengthen(this, start, 0);
            if (found > 0) {
                foundAt = length;
            }
        }

        /** In the order in which folds are told: so the first row with a cut is that of the first way. */
        private static void lengthen(Search search, Layout now, int depth) {
            Layout behind = now.next;
            if (depth >= search.goal || behind == null) {
                search.weigh(now);
                return;
            }
            boolean last = depth + 1 == search.goal;
            int end = Math.min(now.lastStrip(), Lines.GREATEST);
            for (int k = Math.max(now.firstStrip() + 1, Lines.LEAST); k <= end; k++) {
                for (int sort = 0; sort < Lines.SORTS; sort++) {
                    // Which side is turned makes no odds for what meets what.
                    boolean fits = search.rows <= MOST_ROWS && now.isCrossed(sort, k) && now.fits(sort, k);
                    boolean counted = fits && last && search.counting;
                    search.rows += counted ? 2 : 0;
                    for (int side = 0; side < 2 && fits && !counted; side++) {
                        Rows.put(search.row, depth, tell(sort, k, side));
                        now.turnInto(behind, sort, k, side, last);
                        lengthen(search, behind, depth + 1);
                    }
                }
            }
        }

        private void weigh(Layout last) {
            int cuts = counting ? 0 : last.cuts();
            if (cuts > 0 && found == 0) {
                for (int i = 0; i < goal; i++) {
                    Rows.put(first, i, Rows.get(row, i));
                }
                Rows.put(first, goal, last.firstCut());
            }
            found += cuts;
        }

        static int tell(int sort, int k, int side) {
            return 1000 + 100 * k + 10 * sort + side;
        }
    }

    /** The places taken behind some folds, each of the figure or of the others, without their layers. */
    private static final class Layout {
        private static final int FIGURE = 1, OTHERS = 2;
        private static final int FAR = 1000, NEVER_TOLD = 10000;

        private final Layout next;
        private final int[] xs = new int[MOST_LEAVES];
        private final int[] ys = new int[MOST_LEAVES];
        private final int[] quarters = new int[MOST_LEAVES];
        private final int[] kinds = new int[Lines.SPOTS];
        private final int[] leasts = new int[3 * Lines.SORTS];
        private final int[] greatests = new int[3 * Lines.SORTS];
        private int firstKind;
        private int split;
        private int used;

        Layout(Layout next) {
            this.next = next;
        }

        /** The kind with fewer leaves first, then those near it: so it is soon seen that no cut parts the two. */
        void load(Sheet sheet, Figure figure) {
            boolean few = 2 * figure.total <= sheet.leaves;
            int first = figure.first(few);
            clear(few ? FIGURE : OTHERS);
            putAround(sheet, figure, few, first);
            putAround(sheet, figure, !few, first);
        }

        private void putAround(Sheet sheet, Figure figure, boolean drawn, int first) {
            for (int ring = 0; ring < sheet.size; ring++) {
                for (int leaf = 0; leaf < sheet.leaves; leaf++) {
                    if (figure.has(leaf) == drawn && sheet.distance(leaf, first) == ring) {
                        put(sheet.x(leaf), sheet.y(leaf), sheet.quarter(leaf), drawn ? FIGURE : OTHERS);
                    }
                }
            }
        }

        private void clear(int kind) {
            for (int i = 0; i < used; i++) {
                Rows.put(kinds, Lines.spot(Rows.get(xs, i), Rows.get(ys, i), Rows.get(quarters, i)), 0);
            }
            Rows.fill(leasts, FAR);
            Rows.fill(greatests, -FAR);
            firstKind = kind;
            split = 0;
            used = 0;
        }

        /** Those of the first kind are put ahead of the others: the rows have them up to the split. */
        private void put(int x, int y, int quarter, int kind) {
            int spot = Lines.spot(x, y, quarter);
            if (Rows.get(kinds, spot) != 0) {
                return;
            }
            Rows.put(kinds, spot, kind);
            Rows.put(xs, used, x);
            Rows.put(ys, used, y);
            Rows.put(quarters, used, quarter);
            used++;
            split += yes(kind == firstKind);
            for (int sort = 0; sort < Lines.SORTS; sort++) {
                widen(row(kind, sort), Lines.strip(sort, x, y, quarter));
            }
        }

        private int secondKind() {
            return firstKind == FIGURE ? OTHERS : FIGURE;
        }

        private void widen(int i, int strip) {
            Rows.put(leasts, i, Math.min(Rows.get(leasts, i), strip));
            Rows.put(greatests, i, Math.max(Rows.get(greatests, i), strip));
        }

        private int least(int sort) {
            return Math.min(Rows.get(leasts, row(FIGURE, sort)), Rows.get(leasts, row(OTHERS, sort)));
        }

        private int greatest(int sort) {
            return Math.max(Rows.get(greatests, row(FIGURE, sort)), Rows.get(greatests, row(OTHERS, sort)));
        }

        private static int row(int kind, int sort) {
            return Lines.SORTS * kind + sort;
        }

        int firstStrip() {
            int strip = FAR;
            for (int sort = 0; sort < Lines.SORTS; sort++) {
                strip = Math.min(strip, least(sort));
            }
            return strip;
        }

        int lastStrip() {
            int strip = -FAR;
            for (int sort = 0; sort < Lines.SORTS; sort++) {
                strip = Math.max(strip, greatest(sort));
            }
            return strip;
        }

        boolean isCrossed(int sort, int k) {
            return least(sort) < k && greatest(sort) >= k;
        }

        /** Where unlike ones meet there is one of each kind: so it is enough to look at the kind with fewer. */
        boolean fits(int sort, int k) {
            boolean few = 2 * split <= used;
            int end = few ? split : used;
            int unlike = few ? secondKind() : firstKind;
            for (int i = few ? 0 : split; i < end; i++) {
                int x = Lines.mirrorX(sort, k, Rows.get(xs, i), Rows.get(ys, i));
                int y = Lines.mirrorY(sort, k, Rows.get(xs, i), Rows.get(ys, i));
                int quarter = Lines.mirrorQuarter(sort, Rows.get(quarters, i));
                if (Rows.get(kinds, Lines.spot(x, y, quarter)) == unlike) {
                    return false;
                }
            }
            return true;
        }

        /** With last, what lies behind the fold is made only as far as it is seen that no cut can be there. */
        void turnInto(Layout behind, int sort, int k, int side, boolean last) {
            behind.clear(firstKind);
            for (int i = 0; i < used; i++) {
                int x = Rows.get(xs, i);
                int y = Rows.get(ys, i);
                int quarter = Rows.get(quarters, i);
                int kind = i < split ? firstKind : secondKind();
                if (Lines.isOn(Lines.strip(sort, x, y, quarter), k, side)) {
                    int mirrored = Lines.mirrorQuarter(sort, quarter);
                    behind.put(Lines.mirrorX(sort, k, x, y), Lines.mirrorY(sort, k, x, y), mirrored, kind);
                } else {
                    behind.put(x, y, quarter, kind);
                }
                if (last && i >= split && behind.isEntangled()) {
                    return;
                }
            }
        }

        /** No line has the two kinds on its two sides; and none will, whatever is put besides. */
        private boolean isEntangled() {
            for (int sort = 0; sort < Lines.SORTS; sort++) {
                if (firstCut(sort, 0) <= lastCut(sort, 0) || firstCut(sort, 1) <= lastCut(sort, 1)) {
                    return false;
                }
            }
            return true;
        }

        int cuts() {
            int found = 0;
            for (int sort = 0; sort < Lines.SORTS; sort++) {
                for (int side = 0; side < 2; side++) {
                    found += Math.max(0, lastCut(sort, side) - firstCut(sort, side) + 1);
                }
            }
            return found;
        }

        int firstCut() {
            int told = NEVER_TOLD;
            for (int sort = 0; sort < Lines.SORTS; sort++) {
                for (int side = 0; side < 2; side++) {
                    int k = firstCut(sort, side);
                    if (k <= lastCut(sort, side)) {
                        told = Math.min(told, Search.tell(sort, k, side));
                    }
                }
            }
            return told;
        }

        /** The least k that has all on the lesser side that is to be there. */
        private int firstCut(int sort, int side) {
            int kind = side == 0 ? FIGURE : OTHERS;
            return Math.max(Lines.LEAST, Rows.get(greatests, row(kind, sort)) + 1);
        }

        private int lastCut(int sort, int side) {
            int kind = side == 0 ? OTHERS : FIGURE;
            return Math.min(Lines.GREATEST, Rows.get(leasts, row(kind, sort)));
        }
    }
}
