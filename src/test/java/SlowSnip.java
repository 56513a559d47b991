import java.util.ArrayDeque;
import java.util.ArrayList;
import java.util.Arrays;
import java.util.Collections;
import java.util.Deque;
import java.util.HashMap;
import java.util.HashSet;
import java.util.List;
import java.util.Map;
import java.util.Set;
import java.util.TreeMap;
import java.util.TreeSet;

/**
 * The document once more, word by word and slowly, so that OneSnip can be held against it. A leaf is its three
 * corners in half units; what lies in a place is a list from below; what a fold undoes is a copy kept.
 */
final class SlowSnip {
    private static final int UNKNOWN = -1, BAD = -2, STATE = -3, FULL = -4, SPENT = -5, NONE = -99999;

    private record Point(int x, int y) { }

    /** What lies where: of each leaf its three points (in the order outer start, outer end, middle). */
    private static final class State {
        Map<Set<Point>, List<Integer>> piles = new HashMap<>();
        Point[][] corners;
        boolean[] up;
        Map<Set<Integer>, Integer> made = new HashMap<>();

        State copy() {
            State other = new State();
            for (Map.Entry<Set<Point>, List<Integer>> entry : piles.entrySet()) {
                other.piles.put(entry.getKey(), new ArrayList<>(entry.getValue()));
            }
            other.corners = new Point[corners.length][];
            for (int i = 0; i < corners.length; i++) {
                other.corners[i] = corners[i].clone();
            }
            other.up = up.clone();
            other.made = new HashMap<>(made);
            return other;
        }

        Set<Point> where(int leaf) {
            return new HashSet<>(Arrays.asList(corners[leaf]));
        }
    }

    private int n;
    private int leaves;
    private State now;
    private Deque<State> before;
    private Point[][] home;
    private boolean isCut;
    private boolean[] fell;
    private boolean[] figure;
    private int knife = 144;

    private int[] answered;
    private List<Integer> firstWay;
    private int wayCount;
    private int answeredFor;

    SlowSnip() {
        begin(4);
    }

    private void begin(int size) {
        n = size;
        leaves = 4 * n * n;
        home = new Point[leaves][];
        for (int y = 0; y < n; y++) {
            for (int x = 0; x < n; x++) {
                Point[] round = {new Point(2 * x, 2 * y), new Point(2 * x + 2, 2 * y),
                    new Point(2 * x + 2, 2 * y + 2), new Point(2 * x, 2 * y + 2)};
                for (int q = 0; q < 4; q++) {
                    Point middle = new Point(2 * x + 1, 2 * y + 1);
                    home[4 * (y * n + x) + q] = new Point[] {round[q], round[(q + 1) % 4], middle};
                }
            }
        }
        now = flat();
        before = new ArrayDeque<>();
        isCut = false;
        fell = new boolean[leaves];
        figure = new boolean[leaves];
        answered = null;
    }

    private State flat() {
        State state = new State();
        state.corners = new Point[leaves][];
        state.up = new boolean[leaves];
        for (int leaf = 0; leaf < leaves; leaf++) {
            state.corners[leaf] = home[leaf].clone();
            state.up[leaf] = true;
            state.piles.put(state.where(leaf), new ArrayList<>(List.of(leaf)));
        }
        return state;
    }

    private static int left(int sort, Point p) {
        return sort == 0 ? p.x : sort == 1 ? p.y : sort == 2 ? p.x - p.y : p.x + p.y;
    }

    private static Point mirrored(int sort, int k, Point p) {
        switch (sort) {
            case 0: return new Point(4 * k - p.x, p.y);
            case 1: return new Point(p.x, 4 * k - p.y);
            case 2: return new Point(p.y + 2 * k, p.x - 2 * k);
            default: return new Point(2 * k - p.y, 2 * k - p.x);
        }
    }

    private static int sideOf(int sort, int k, Iterable<Point> points) {
        boolean below = false;
        boolean above = false;
        for (Point p : points) {
            int left = left(sort, p);
            below |= left < 2 * k;
            above |= left > 2 * k;
        }
        if (below == above) {
            throw new IllegalStateException("a leaf across a line");
        }
        return below ? 0 : 1;
    }

    private static boolean goodLine(int sort, int k) {
        return sort >= 0 && sort <= 3 && k >= -24 && k <= 48;
    }

    private static boolean goodSide(int side) {
        return side == 0 || side == 1;
    }

    private static int lying(State state, int sort, int k, int side) {
        int found = 0;
        for (Point[] corners : state.corners) {
            found += sideOf(sort, k, Arrays.asList(corners)) == side ? 1 : 0;
        }
        return found;
    }

    private boolean refuses(State state, int sort, int k) {
        int lesser = lying(state, sort, k, 0);
        return lesser == 0 || lesser == leaves;
    }

    private State folded(State from, int sort, int k, int side, boolean over) {
        State to = from.copy();
        to.piles.clear();
        for (Map.Entry<Set<Point>, List<Integer>> entry : from.piles.entrySet()) {
            if (sideOf(sort, k, entry.getKey()) != side) {
                to.piles.put(entry.getKey(), new ArrayList<>(entry.getValue()));
            }
        }
        boolean[] turned = new boolean[leaves];
        for (Map.Entry<Set<Point>, List<Integer>> entry : from.piles.entrySet()) {
            if (sideOf(sort, k, entry.getKey()) == side) {
                Set<Point> target = new HashSet<>();
                for (Point p : entry.getKey()) {
                    target.add(mirrored(sort, k, p));
                }
                List<Integer> moved = new ArrayList<>(entry.getValue());
                Collections.reverse(moved);
                List<Integer> there = to.piles.computeIfAbsent(target, t -> new ArrayList<>());
                there.addAll(over ? there.size() : 0, moved);
                for (int leaf : moved) {
                    turned[leaf] = true;
                    to.up[leaf] = !from.up[leaf];
                    for (int i = 0; i < 3; i++) {
                        to.corners[leaf][i] = mirrored(sort, k, from.corners[leaf][i]);
                    }
                }
            }
        }
        for (int a = 0; a < leaves; a++) {
            for (int edge = 0; edge < 3; edge++) {
                int b = next(a, edge);
                if (b != NONE && turned[a] != turned[b] && to.up[a] != to.up[b]) {
                    to.made.put(Set.of(a, b), over == from.up[a] ? 1 : 2);
                }
            }
        }
        return to;
    }

    /** The end points of an edge in the unfolded sheet. */
    private Set<Point> ends(int leaf, int edge) {
        Point[] c = home[leaf];
        return edge == 0 ? Set.of(c[0], c[1]) : edge == 1 ? Set.of(c[2], c[1]) : Set.of(c[2], c[0]);
    }

    private Map<Integer, Map<Set<Point>, Integer>> nextBy = new HashMap<>();
    private int nextFor = 0;

    private int next(int leaf, int edge) {
        if (nextFor != n) {
            nextBy.clear();
            Map<Set<Point>, List<Integer>> both = new HashMap<>();
            for (int a = 0; a < leaves; a++) {
                for (int e = 0; e < 3; e++) {
                    both.computeIfAbsent(ends(a, e), t -> new ArrayList<>()).add(a);
                }
            }
            for (int a = 0; a < leaves; a++) {
                nextBy.put(a, new HashMap<>());
                for (int e = 0; e < 3; e++) {
                    for (int b : both.get(ends(a, e))) {
                        if (b != a) {
                            nextBy.get(a).put(ends(a, e), b);
                        }
                    }
                }
            }
            nextFor = n;
        }
        return nextBy.get(leaf).getOrDefault(ends(leaf, edge), NONE);
    }

    int sheet(int size) {
        if (size < 1 || size > 6) {
            return BAD;
        }
        int was = n;
        begin(size);
        return was;
    }

    int fold(int sort, int k, int side, boolean over) {
        if (!goodLine(sort, k) || !goodSide(side)) {
            return BAD;
        }
        if (isCut || refuses(now, sort, k)) {
            return STATE;
        }
        if (before.size() == 8) {
            return FULL;
        }
        before.push(now);
        now = folded(now, sort, k, side, over);
        return places();
    }

    int unfold() {
        if (before.isEmpty()) {
            return STATE;
        }
        now = before.pop();
        return before.size();
    }

    private static int cellX(Point[] corners) {
        return Math.floorDiv(corners[2].x, 2);
    }

    private static int cellY(Point[] corners) {
        return Math.floorDiv(corners[2].y, 2);
    }

    private static int quarterOf(Point[] c) {
        int dx = c[0].x + c[1].x - 2 * c[2].x;
        int dy = c[0].y + c[1].y - 2 * c[2].y;
        return dy < 0 ? 0 : dx > 0 ? 1 : dy > 0 ? 2 : 3;
    }

    int facet(int leaf, int what) {
        if (leaf < 0 || leaf >= leaves) {
            return UNKNOWN;
        }
        List<Integer> pile = now.piles.get(now.where(leaf));
        switch (what) {
            case 0: return cellX(now.corners[leaf]);
            case 1: return cellY(now.corners[leaf]);
            case 2: return quarterOf(now.corners[leaf]);
            case 3: return pile.indexOf(leaf);
            case 4: return now.up[leaf] ? 1 : 0;
            case 5: return pile.size();
            case 6: return fell[leaf] ? 1 : 0;
            case 7: return figure[leaf] ? 1 : 0;
            default: return BAD;
        }
    }

    int at(int x, int y, int quarter, int layer) {
        if (quarter < 0 || quarter > 3) {
            return BAD;
        }
        for (List<Integer> pile : now.piles.values()) {
            Point[] c = now.corners[pile.get(0)];
            if (cellX(c) == x && cellY(c) == y && quarterOf(c) == quarter) {
                return layer >= 0 && layer < pile.size() ? pile.get(layer) : NONE;
            }
        }
        return NONE;
    }

    int places() {
        return now.piles.size();
    }

    int deepest() {
        int most = 0;
        for (List<Integer> pile : now.piles.values()) {
            most = Math.max(most, pile.size());
        }
        return most;
    }

    int reach(int what) {
        if (what < 0 || what > 3) {
            return BAD;
        }
        TreeSet<Integer> all = new TreeSet<>();
        for (Point[] c : now.corners) {
            all.add(what < 2 ? cellX(c) : cellY(c));
        }
        return what % 2 == 0 ? all.first() : all.last();
    }

    int folds() {
        return before.size();
    }

    int crease(int leaf, int edge) {
        if (leaf < 0 || leaf >= leaves) {
            return UNKNOWN;
        }
        if (edge < 0 || edge > 2) {
            return BAD;
        }
        int other = next(leaf, edge);
        return other == NONE ? NONE : now.made.getOrDefault(Set.of(leaf, other), 0);
    }

    int neighbour(int leaf, int edge) {
        if (leaf < 0 || leaf >= leaves) {
            return UNKNOWN;
        }
        return edge < 0 || edge > 2 ? BAD : next(leaf, edge);
    }

    int creases(boolean mountain) {
        return Collections.frequency(new ArrayList<>(now.made.values()), mountain ? 2 : 1);
    }

    private int ending(int x, int y, boolean half, int kind) {
        Point point = half ? new Point(2 * x + 1, 2 * y + 1) : new Point(2 * x, 2 * y);
        int found = 0;
        for (Map.Entry<Set<Integer>, Integer> entry : now.made.entrySet()) {
            List<Integer> two = new ArrayList<>(entry.getKey());
            Set<Point> common = new HashSet<>(Arrays.asList(home[two.get(0)]));
            common.retainAll(Arrays.asList(home[two.get(1)]));
            found += entry.getValue() == kind && common.contains(point) ? 1 : 0;
        }
        return found;
    }

    private boolean noPoint(int x, int y, boolean half) {
        int most = half ? n - 1 : n;
        return x < 0 || x > most || y < 0 || y > most;
    }

    int balance(int x, int y, boolean half) {
        return noPoint(x, y, half) ? BAD : ending(x, y, half, 2) - ending(x, y, half, 1);
    }

    int degree(int x, int y, boolean half) {
        return noPoint(x, y, half) ? BAD : ending(x, y, half, 2) + ending(x, y, half, 1);
    }

    int knife(int size) {
        if (size < 1 || size > 144) {
            return BAD;
        }
        int was = knife;
        knife = size;
        return was;
    }

    int thickness(int sort, int k) {
        if (!goodLine(sort, k)) {
            return BAD;
        }
        int most = 0;
        for (Map.Entry<Set<Point>, List<Integer>> entry : now.piles.entrySet()) {
            int on = 0;
            for (Point p : entry.getKey()) {
                on += left(sort, p) == 2 * k ? 1 : 0;
            }
            if (on == 2) {
                most = Math.max(most, entry.getValue().size());
            }
        }
        return most;
    }

    int would(int sort, int k, int side) {
        return goodLine(sort, k) && goodSide(side) ? lying(now, sort, k, side) : BAD;
    }

    int cut(int sort, int k, int side) {
        if (!goodLine(sort, k) || !goodSide(side)) {
            return BAD;
        }
        if (isCut) {
            return STATE;
        }
        if (thickness(sort, k) > knife) {
            return FULL;
        }
        isCut = true;
        for (int leaf = 0; leaf < leaves; leaf++) {
            fell[leaf] = sideOf(sort, k, Arrays.asList(now.corners[leaf])) == side;
        }
        return count(1);
    }

    private Map<Integer, List<Integer>> allPieces() {
        int[] least = new int[leaves];
        for (int i = 0; i < leaves; i++) {
            least[i] = i;
        }
        boolean again = true;
        while (again) {
            again = false;
            for (int a = 0; a < leaves; a++) {
                for (int edge = 0; edge < 3; edge++) {
                    int b = next(a, edge);
                    if (b != NONE && fell[a] == fell[b] && least[b] < least[a]) {
                        least[a] = least[b];
                        again = true;
                    }
                }
            }
        }
        Map<Integer, List<Integer>> found = new TreeMap<>();
        for (int i = 0; i < leaves; i++) {
            found.computeIfAbsent(least[i], t -> new ArrayList<>()).add(i);
        }
        return found;
    }

    int pieces(boolean left) {
        int found = 0;
        for (int least : allPieces().keySet()) {
            found += fell[least] != left ? 1 : 0;
        }
        return found;
    }

    int holes() {
        int found = 0;
        for (List<Integer> piece : allPieces().values()) {
            boolean out = !fell[piece.get(0)];
            for (int leaf : piece) {
                for (int edge = 0; edge < 3; edge++) {
                    out |= next(leaf, edge) == NONE;
                }
            }
            found += out ? 0 : 1;
        }
        return found;
    }

    int rims(boolean slant) {
        Set<Set<Integer>> found = new HashSet<>();
        for (int a = 0; a < leaves; a++) {
            for (int edge = 0; edge < 3; edge++) {
                int b = next(a, edge);
                if (b != NONE && fell[a] != fell[b] && slant == (edge > 0)) {
                    found.add(Set.of(a, b));
                }
            }
        }
        return found.size();
    }

    int piece(int leaf) {
        for (Map.Entry<Integer, List<Integer>> entry : allPieces().entrySet()) {
            if (entry.getValue().contains(leaf)) {
                return entry.getKey();
            }
        }
        return UNKNOWN;
    }

    int mark(int leaf, boolean is) {
        if (leaf < 0 || leaf >= leaves) {
            return UNKNOWN;
        }
        int was = figure[leaf] ? 1 : 0;
        figure[leaf] = is;
        answered = null;
        return was;
    }

    int markCell(int x, int y, boolean is) {
        if (x < 0 || x >= n || y < 0 || y >= n) {
            return BAD;
        }
        for (int q = 0; q < 4; q++) {
            mark(4 * (y * n + x) + q, is);
        }
        return count(2);
    }

    int take() {
        if (!isCut) {
            return STATE;
        }
        figure = fell.clone();
        answered = null;
        return count(2);
    }

    int same() {
        return Arrays.equals(figure, fell) ? 1 : 0;
    }

    int mirror(int sort, int k) {
        if (!goodLine(sort, k)) {
            return BAD;
        }
        Map<Set<Point>, Integer> lying = new HashMap<>();
        for (int leaf = 0; leaf < leaves; leaf++) {
            lying.put(new HashSet<>(Arrays.asList(home[leaf])), leaf);
        }
        for (int leaf = 0; leaf < leaves; leaf++) {
            Set<Point> there = new HashSet<>();
            for (Point p : home[leaf]) {
                there.add(mirrored(sort, k, p));
            }
            Integer other = lying.get(there);
            if (other == null || figure[other] != figure[leaf]) {
                return 0;
            }
        }
        return 1;
    }

    int mirrors() {
        int found = 0;
        for (int sort = 0; sort < 4; sort++) {
            for (int k = -24; k <= 48; k++) {
                found += mirror(sort, k);
            }
        }
        return found;
    }

    private boolean isMixed(State state) {
        for (List<Integer> pile : state.piles.values()) {
            for (int leaf : pile) {
                if (figure[leaf] != figure[pile.get(0)]) {
                    return true;
                }
            }
        }
        return false;
    }

    private record Row(State state, List<Integer> told) { }

    /** The fewest folds of a way with f at most, NONE or SPENT; the first way and their number by the way. */
    private int solve(int f) {
        if (answered != null && answeredFor == f) {
            return answered[0];
        }
        answeredFor = f;
        answered = new int[] {search(f)};
        return answered[0];
    }

    private int search(int f) {
        List<Row> rows = List.of(new Row(flat(), List.of()));
        int total = 0;
        for (int length = 0; length <= f; length++) {
            if (length > 0) {
                List<Row> longer = new ArrayList<>();
                for (Row row : rows) {
                    total += addLonger(row, longer);
                    if (total > 3000) {
                        return SPENT;
                    }
                }
                rows = longer;
            }
            firstWay = null;
            wayCount = 0;
            for (Row row : rows) {
                cutEach(row);
            }
            if (wayCount > 0) {
                return length;
            }
        }
        return NONE;
    }

    private int addLonger(Row row, List<Row> longer) {
        int found = 0;
        for (int k = -24; k <= 48; k++) {
            for (int sort = 0; sort < 4; sort++) {
                boolean refused = refuses(row.state, sort, k);
                for (int side = 0; side < 2; side++) {
                    if (!refused) {
                        State next = folded(row.state, sort, k, side, true);
                        if (!isMixed(next)) {
                            List<Integer> told = new ArrayList<>(row.told);
                            told.add(100 * k + 1000 + 10 * sort + side);
                            longer.add(new Row(next, told));
                            found++;
                        }
                    }
                }
            }
        }
        return found;
    }

    private void cutEach(Row row) {
        for (int k = -24; k <= 48; k++) {
            for (int sort = 0; sort < 4; sort++) {
                for (int side = 0; side < 2; side++) {
                    boolean just = true;
                    for (int leaf = 0; leaf < leaves && just; leaf++) {
                        boolean falls = sideOf(sort, k, Arrays.asList(row.state.corners[leaf])) == side;
                        just = falls == figure[leaf];
                    }
                    if (just) {
                        wayCount++;
                        if (firstWay == null) {
                            firstWay = new ArrayList<>(row.told);
                            firstWay.add(100 * k + 1000 + 10 * sort + side);
                        }
                    }
                }
            }
        }
    }

    int fewest(int f) {
        return f < 0 || f > 3 ? BAD : solve(f);
    }

    int way(int f, int i) {
        if (f < 0 || f > 3) {
            return BAD;
        }
        int found = solve(f);
        if (found < 0) {
            return found;
        }
        return i >= 0 && i < firstWay.size() ? firstWay.get(i) : NONE;
    }

    int ways(int f) {
        if (f < 0 || f > 3) {
            return BAD;
        }
        int found = solve(f);
        return found == NONE ? 0 : found < 0 ? found : wayCount;
    }

    int count(int what) {
        int found = 0;
        switch (what) {
            case 0: return leaves;
            case 1:
                for (boolean is : fell) {
                    found += is ? 1 : 0;
                }
                return found;
            case 2:
                for (boolean is : figure) {
                    found += is ? 1 : 0;
                }
                return found;
            case 3:
                for (boolean is : now.up) {
                    found += is ? 0 : 1;
                }
                return found;
            case 4: return n;
            default: return BAD;
        }
    }
}
