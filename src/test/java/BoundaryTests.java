import java.util.ArrayList;
import java.util.List;
import java.util.function.IntUnaryOperator;

/**
 * The sentences of ../shared/DOC.md that name a bound, each with a test of its own: the least and the greatest that
 * is allowed, and those next to them that are not; too small, too large, empty, full, refused. No object here is
 * used for more than 512 calls: what it answers then is free.
 */
public final class BoundaryTests {
    private static final int UNKNOWN = -1, BAD = -2, STATE = -3, FULL = -4, SPENT = -5, NONE = -99999;
    private static final int LEAST = -24, GREATEST = 48;
    private static final String[] ON_LINES = {"fold", "thickness", "would", "cut", "mirror"};

    private static int wrong = 0;
    private static String sentence = "";

    public static void main(String[] args) {
        theSheet();
        theLines();
        theFolds();
        theLeaves();
        theCreases();
        theCut();
        whatFell();
        theFigure();
        theWays();
        theRefusals();
        if (wrong != 0) {
            System.out.println(wrong + " answers are not as due");
            System.exit(1);
        }
    }

    private static void due(String call, long got, long want) {
        if (got != want) {
            wrong++;
            System.out.println("'" + sentence + "': " + call + " answered " + got + ", due is " + want);
        }
    }

    private static void dueAlike(String call, List<Integer> got, List<Integer> want) {
        due(call + ": as many answers", got.size(), want.size());
        for (int i = 0; i < got.size() && i < want.size(); i++) {
            due(call + ", answer " + i, got.get(i), want.get(i));
        }
    }

    /** Just below the least, just above the greatest, and far off: refused so. */
    private static void beside(String call, int least, int greatest, int refusal, IntUnaryOperator of) {
        int[] out = {least - 1, greatest + 1, least - 1000, greatest + 1000, Integer.MIN_VALUE, Integer.MAX_VALUE};
        for (int i : out) {
            due(call + " with " + i, of.applyAsInt(i), refusal);
        }
    }

    private static OneSnip of(int n) {
        OneSnip x = new OneSnip();
        x.sheet(n);
        return x;
    }

    private static OneSnip marked(int n, int... leaves) {
        OneSnip x = of(n);
        for (int leaf : leaves) {
            x.mark(leaf, true);
        }
        return x;
    }

    /** n by n, folded along the lines of a sort one after the other, always the same side, over. */
    private static OneSnip folded(int n, int sort, int side, int... ks) {
        OneSnip x = of(n);
        foldOn(x, sort, side, ks);
        return x;
    }

    private static void foldOn(OneSnip x, int sort, int side, int... ks) {
        for (int k : ks) {
            due("fold(" + sort + ", " + k + ", " + side + ", true) is not refused",
                x.fold(sort, k, side, true) > 0 ? 1 : 0, 1);
        }
    }

    private static int onLine(String call, OneSnip x, int sort, int k, int side) {
        switch (call) {
            case "fold": return x.fold(sort, k, side, true);
            case "thickness": return x.thickness(sort, k);
            case "would": return x.would(sort, k, side);
            case "cut": return x.cut(sort, k, side);
            default: return x.mirror(sort, k);
        }
    }

    // ---- 1 the sheet

    private static void theSheet() {
        sentence = "A SHEET is n by n CELLS (n 1 .. 6; 4 at first)";
        OneSnip x = new OneSnip();
        due("count(4)", x.count(4), 4);
        beside("sheet", 1, 6, BAD, x::sheet);
        due("count(4) behind those refused", x.count(4), 4);
        int before = 4;
        for (int n : new int[] {1, 2, 3, 4, 5, 6, 6, 1}) {
            due("sheet(" + n + ")", x.sheet(n), before);
            before = n;
            due("count(4)", x.count(4), n);
            due("count(0)", x.count(0), 4 * n * n);
            due("places()", x.places(), 4 * n * n);
            due("deepest()", x.deepest(), 1);
            for (int what = 0; what < 4; what++) {
                due("reach(" + what + ")", x.reach(what), what % 2 == 0 ? 0 : n - 1);
            }
        }
        sheetAfterAll();
        cells();
        points();
    }

    private static void sheetAfterAll() {
        sentence = "A new SHEET, not FOLDED, no FIGURE: n of that before";
        OneSnip x = eight();
        x.markCell(0, 0, true);
        x.cut(0, 3, 0);
        x.take();
        due("sheet(6)", x.sheet(6), 6);
        dueAlike("all that is told", told(x), told(of(6)));
        due("folds anew", x.fold(0, 3, 1, true), 72);
        due("is cut anew", x.cut(0, 0, 0), 0);
        OneSnip y = of(6);
        y.mark(143, true);
        y.cut(0, 3, 0);
        y.sheet(1);
        y.sheet(6);
        dueAlike("large, small, large", told(y), told(of(6)));
        for (int n = 1; n <= 6; n++) {
            afterLarger(n, eight());
            OneSnip steps = folded(6, 1, 1, 4, 2);
            foldOn(steps, 2, 0, 1);
            afterLarger(n, steps);
        }
    }

    /** Nothing is left of a larger sheet, folded and cut: neither leaves beyond the new one, nor their creases. */
    private static void afterLarger(int n, OneSnip x) {
        x.mark(4 * n * n - 1, true);
        x.cut(0, 3, 1);
        x.take();
        due("sheet(" + n + ")", x.sheet(n), 6);
        dueAlike("all that is told", told(x), told(of(n)));
        for (int row = 0; row <= n; row++) {
            for (int column = 0; column <= n; column++) {
                due("degree(" + column + ", " + row + ")", x.degree(column, row, false), 0);
            }
        }
        for (int i = 0; i < 144; i++) {
            int column = i / 4 % 6;
            int row = i / 24;
            boolean is = column < n && row < n;
            due("at(" + column + ", " + row + ", " + i % 4 + ", 0)", x.at(column, row, i % 4, 0),
                is ? 4 * (row * n + column) + i % 4 : NONE);
        }
    }

    private static void cells() {
        for (int n = 1; n <= 6; n++) {
            int size = n;
            sentence = "Each CELL x, y (0 .. n - 1), n = " + n;
            OneSnip x = of(n);
            beside("markCell(.., 0)", 0, n - 1, BAD, i -> x.markCell(i, 0, true));
            beside("markCell(0, ..)", 0, n - 1, BAD, i -> x.markCell(0, i, true));
            beside("markCell(.., n - 1)", 0, n - 1, BAD, i -> x.markCell(i, size - 1, true));
            beside("markCell(n - 1, ..)", 0, n - 1, BAD, i -> x.markCell(size - 1, i, true));
            due("both too large", x.markCell(n, n, true), BAD);
            due("count(2)", x.count(2), 0);
            due("markCell(0, 0)", x.markCell(0, 0, true), 4);
            due("markCell(n - 1, n - 1)", x.markCell(n - 1, n - 1, true), n == 1 ? 4 : 8);
            due("markCell(n - 1, 0)", x.markCell(n - 1, 0, true), n == 1 ? 4 : 12);
            due("markCell(0, n - 1)", x.markCell(0, n - 1, true), n == 1 ? 4 : 16);
            due("it is the last leaf's", x.facet(4 * n * n - 1, 7), 1);
            due("refused, with false", x.markCell(n, 0, false), BAD);
            due("markCell(0, 0, false)", x.markCell(0, 0, false), n == 1 ? 0 : 12);
        }
    }

    private static void points() {
        for (int n = 1; n <= 6; n++) {
            int size = n;
            OneSnip x = folded(n, 2, 0, 0);
            sentence = "Of a point of the SHEET (0 .. n each), n = " + n;
            beside("degree(.., 0)", 0, n, BAD, i -> x.degree(i, 0, false));
            beside("degree(0, ..)", 0, n, BAD, i -> x.degree(0, i, false));
            beside("degree(.., n)", 0, n, BAD, i -> x.degree(i, size, false));
            beside("balance(.., 0)", 0, n, BAD, i -> x.balance(i, 0, false));
            beside("balance(0, ..)", 0, n, BAD, i -> x.balance(0, i, false));
            beside("balance(n, ..)", 0, n, BAD, i -> x.balance(size, i, false));
            for (int i = 0; i <= n; i++) {
                int ends = i == 0 || i == n ? 1 : 2;
                due("degree(" + i + ", " + i + ")", x.degree(i, i, false), ends);
                due("balance(" + i + ", " + i + ")", x.balance(i, i, false), -ends);
                due("degree(" + i + ", n - " + i + ")", x.degree(i, n - i, false), 2 * i == n ? 2 : 0);
            }
            due("degree(n, 0)", x.degree(n, 0, false), 0);
            due("balance(0, n)", x.balance(0, n, false), 0);
            sentence = "half = true: the middle of CELL x, y, n = " + n;
            beside("degree(.., 0, true)", 0, n - 1, BAD, i -> x.degree(i, 0, true));
            beside("degree(0, .., true)", 0, n - 1, BAD, i -> x.degree(0, i, true));
            beside("balance(.., 0, true)", 0, n - 1, BAD, i -> x.balance(i, 0, true));
            beside("balance(n - 1, .., true)", 0, n - 1, BAD, i -> x.balance(size - 1, i, true));
            for (int i = 0; i < n; i++) {
                due("degree(" + i + ", " + i + ", true)", x.degree(i, i, true), 2);
                due("balance(" + i + ", " + i + ", true)", x.balance(i, i, true), -2);
            }
            due("degree(n - 1, 0, true)", x.degree(n - 1, 0, true), n == 1 ? 2 : 0);
        }
    }

    // ---- 1 lines

    private static void theLines() {
        sorts();
        sides();
        ks();
        leafOnOneSide();
        farBelow();
        farAbove();
    }

    private static void sorts() {
        sentence = "LINES: sort 0: x = k; 1: y = k; 2: x - y = k; 3: x + y = k";
        int[][] want = {{8, 8, 14, 14}, {1, 1, 1, 1}, {8, 8, 14, 2}, {8, 8, 14, 2}, {1, 1, 0, 0}};
        for (int i = 0; i < ON_LINES.length; i++) {
            String call = ON_LINES[i];
            for (int sort = 0; sort < 4; sort++) {
                due(call + " of sort " + sort, onLine(call, of(2), sort, 1, 0), want[i][sort]);
            }
            OneSnip x = of(2);
            beside(call + " of a sort", 0, 3, BAD, sort -> onLine(call, x, sort, 1, 0));
            dueAlike("nothing of it is done", told(x), told(of(2)));
        }
    }

    private static void sides() {
        sentence = "side (0, 1)";
        int[] want = {8, 8, 2, 14};
        for (String call : new String[] {"fold", "would", "cut"}) {
            for (int sort = 0; sort < 4; sort++) {
                int places = sort < 2 ? 8 : 14;
                int line = sort;
                due(call + ", the greater side, sort " + sort, onLine(call, of(2), sort, 1, 1),
                    call.equals("fold") ? places : want[sort]);
                OneSnip x = of(2);
                beside(call + " of a side", 0, 1, BAD, side -> onLine(call, x, line, 1, side));
                dueAlike("nothing of it is done", told(x), told(of(2)));
            }
        }
        OneSnip over = folded(2, 0, 0, 1);
        due("side 0 is the lesser one", over.reach(0), 1);
        OneSnip back = folded(2, 0, 1, 1);
        due("side 1 is the greater one", back.reach(1), 0);
    }

    private static void ks() {
        sentence = "(k -24 .. 48)";
        for (int sort = 0; sort < 4; sort++) {
            int line = sort;
            for (String call : ON_LINES) {
                OneSnip x = of(2);
                beside(call + ", sort " + sort + ", k", LEAST, GREATEST, BAD, k -> onLine(call, x, line, k, 1));
                dueAlike("nothing of it is done", told(x), told(of(2)));
            }
            OneSnip x = of(2);
            for (int k : new int[] {LEAST, GREATEST}) {
                due("fold, all or none there", x.fold(sort, k, 0, true), STATE);
                due("fold, all or none there", x.fold(sort, k, 1, true), STATE);
                due("thickness", x.thickness(sort, k), 0);
                due("mirror", x.mirror(sort, k), 0);
                due("would, lesser", x.would(sort, k, 0), k == LEAST ? 0 : 16);
                due("would, greater", x.would(sort, k, 1), k == LEAST ? 16 : 0);
                due("cut, lesser", of(2).cut(sort, k, 0), k == LEAST ? 0 : 16);
                due("cut, greater", of(2).cut(sort, k, 1), k == LEAST ? 16 : 0);
            }
        }
    }

    private static void leafOnOneSide() {
        sentence = "A LEAF lies wholly on one side: the LESSER where the left side is below k, the GREATER above";
        // Of 1 by 1, which of the leaves 0 .. 3 lie on the lesser side of lines next to each other.
        String[][] lesser = {{"", "0123"}, {"", "0123"}, {"", "23", "0123"}, {"", "03", "0123"}};
        int[] from = {0, 0, -1, 0};
        for (int sort = 0; sort < 4; sort++) {
            for (int i = 0; i < lesser[sort].length; i++) {
                int k = from[sort] + i;
                due("would(" + sort + ", " + k + ", 0)", of(1).would(sort, k, 0), lesser[sort][i].length());
                due("would(" + sort + ", " + k + ", 1)", of(1).would(sort, k, 1), 4 - lesser[sort][i].length());
                OneSnip x = of(1);
                OneSnip y = of(1);
                x.cut(sort, k, 0);
                y.cut(sort, k, 1);
                for (int leaf = 0; leaf < 4; leaf++) {
                    int is = lesser[sort][i].indexOf((char) ('0' + leaf)) >= 0 ? 1 : 0;
                    due("leaf " + leaf + ", sort " + sort + ", k " + k + ", lesser", x.facet(leaf, 6), is);
                    due("leaf " + leaf + ", sort " + sort + ", k " + k + ", greater", y.facet(leaf, 6), 1 - is);
                }
            }
        }
    }

    /** The line next to the last is refused, though it parts what lies. */
    private static void refusedThoughParted(OneSnip x, int sort, int k) {
        List<Integer> before = told(x);
        for (String call : ON_LINES) {
            due(call + "(" + sort + ", " + k + ", ..)", onLine(call, x, sort, k, 0), BAD);
        }
        dueAlike("nothing of it is done", told(x), before);
    }

    private static void farBelow() {
        sentence = "(k -24 .. 48): k = -24, and what lies beyond it";
        OneSnip d = folded(6, 2, 1, -5, -15);
        due("would(2, -24, 0)", d.would(2, LEAST, 0), 8);
        due("would(2, -24, 1)", d.would(2, LEAST, 1), 136);
        due("thickness(2, -24)", d.thickness(2, LEAST), 1);
        due("fold(2, -24, 1)", d.fold(2, LEAST, 1, true), 134);
        int[] lies = {-14, -9, 14, 19};
        for (int what = 0; what < 4; what++) {
            due("reach(" + what + ")", d.reach(what), lies[what]);
        }
        refusedThoughParted(d, 2, LEAST - 1);
        OneSnip s = folded(6, 3, 1, 1, -9, -18);
        due("would(3, -24, 0)", s.would(3, LEAST, 0), 32);
        refusedThoughParted(s, 3, LEAST - 1);
        due("fold(3, -24, 0)", s.fold(3, LEAST, 0, true), 104);
        OneSnip x = folded(6, 2, 1, -5, -15, -24);
        foldOn(x, 3, 1, 1, -9, -18);
        due("reach(0)", x.reach(0), -28);
        due("reach(1)", x.reach(1), -23);
        refusedThoughParted(x, 0, LEAST - 1);
        due("cut(0, -24, 0), and what is left", x.cut(0, LEAST, 0) + x.would(0, LEAST, 1), 144);
        OneSnip y = folded(6, 2, 0, 5, 15, 24);
        foldOn(y, 3, 1, 1, -9, -18);
        due("reach(2)", y.reach(2), -28);
        due("reach(3)", y.reach(3), -23);
        refusedThoughParted(y, 1, LEAST - 1);
        foldOn(y, 1, 0, LEAST);
        due("reach(2) behind the fold", y.reach(2), -24);
    }

    private static void farAbove() {
        sentence = "(k -24 .. 48): k = 48, and what lies beyond it";
        OneSnip d = folded(6, 2, 0, 5, 15, 24, 32, 39, 45);
        int[] lies = {24, 29, -24, -19};
        for (int what = 0; what < 4; what++) {
            due("reach(" + what + ")", d.reach(what), lies[what]);
        }
        due("would(2, 48, 0)", d.would(2, GREATEST, 0), 72);
        refusedThoughParted(d, 2, GREATEST + 1);
        due("fold(2, 48, 0)", d.fold(2, GREATEST, 0, true), 54);
        OneSnip s = folded(6, 3, 0, 11, 21, 30, 38, 45);
        due("would(3, 48, 1)", s.would(3, GREATEST, 1), 72);
        refusedThoughParted(s, 3, GREATEST + 1);
        due("cut(3, 48, 1)", s.cut(3, GREATEST, 1), 72);
        placesFarOff(folded(6, 3, 0, 11, 21, 30, 38, 45));
    }

    private static void placesFarOff(OneSnip x) {
        sentence = "PLACE: a CELL (of whole numbers, perhaps beyond the SHEET) and one of its four quarters";
        int here = x.at(x.facet(70, 0), x.facet(70, 1), x.facet(70, 2), x.facet(70, 3));
        due("at, where leaf 70 lies", here, 70);
        due("beyond the sheet", x.facet(70, 0) > 20 ? 1 : 0, 1);
        for (int off : new int[] {6, -6, 8, -8, 16, -16, 32, -32, 64, -64, 1 << 16, 1 << 28, 1 << 30}) {
            int over = x.at(x.facet(70, 0) + off, x.facet(70, 1), x.facet(70, 2), x.facet(70, 3));
            due("at, " + off + " to the right of it", over, NONE);
            int up = x.at(x.facet(70, 0), x.facet(70, 1) + off, x.facet(70, 2), x.facet(70, 3));
            due("at, " + off + " up from it", up, NONE);
            int layer = x.at(x.facet(70, 0), x.facet(70, 1), x.facet(70, 2), x.facet(70, 3) + off);
            due("at, " + off + " layers from it", layer, NONE);
        }
    }

    // ---- 1 folds

    /** Eight folds of 6 by 6, after which much is left to be folded: corners turned in, and the middle. */
    private static OneSnip eight() {
        OneSnip x = of(6);
        int[][] corners = {{3, 1, 0}, {3, 11, 1}, {2, 5, 1}, {2, -5, 0}, {3, 2, 0}, {3, 10, 1}, {2, 4, 1}, {2, -4, 0}};
        for (int i = 0; i < corners.length; i++) {
            due("folds()", x.folds(), i);
            due("fold " + (i + 1), x.fold(corners[i][0], corners[i][1], corners[i][2], true),
                i < 4 ? 142 - 2 * i : 136 - 6 * (i - 3));
        }
        return x;
    }

    /** 6 by 6, folded eight times, so that all lies in one place. */
    private static OneSnip stack() {
        OneSnip x = of(6);
        int[][] folds = {{0, 3, 1}, {0, 2, 1}, {0, 1, 1}, {1, 3, 1}, {1, 2, 1}, {1, 1, 1}, {2, 0, 0}, {3, 1, 1}};
        int[] places = {72, 48, 24, 12, 8, 4, 2, 1};
        for (int i = 0; i < folds.length; i++) {
            due("fold " + (i + 1), x.fold(folds[i][0], folds[i][1], folds[i][2], true), places[i]);
        }
        return x;
    }

    private static void theFolds() {
        nothingOnASide();
        eightAtMost();
        unfolding();
    }

    private static void nothingOnASide() {
        for (int n = 1; n <= 6; n++) {
            sentence = "It does nothing if nothing lies on that side, or nothing on the other one (refused), n = " + n;
            int[] least = {1, 1, 1 - n, 1};
            int[] greatest = {n - 1, n - 1, n - 1, 2 * n - 1};
            for (int sort = 0; sort < 4; sort++) {
                OneSnip x = of(n);
                for (int k : new int[] {least[sort] - 1, greatest[sort] + 1, LEAST, GREATEST}) {
                    for (int side = 0; side < 2; side++) {
                        due("fold(" + sort + ", " + k + ", " + side + ", true)", x.fold(sort, k, side, true), STATE);
                        due("fold(" + sort + ", " + k + ", " + side + ", false)", x.fold(sort, k, side, false), STATE);
                    }
                }
                dueAlike("nothing of it is done", told(x), told(of(n)));
                for (int k = least[sort]; k <= greatest[sort]; k++) {
                    for (int side = 0; side < 2; side++) {
                        OneSnip y = of(n);
                        due("fold(" + sort + ", " + k + ") is none", y.fold(sort, k, side, side == 1) > 0 ? 1 : 0, 1);
                        due("folds()", y.folds(), 1);
                        due("fold() there again", y.fold(sort, k, 0, true), STATE);
                        due("fold() there again", y.fold(sort, k, 1, true), STATE);
                        due("unfold()", y.unfold(), 0);
                        due("places()", y.places(), 4 * n * n);
                    }
                }
            }
        }
    }

    private static void eightAtMost() {
        sentence = "8 FOLDS at most, one behind the other; FULL: 8";
        OneSnip x = eight();
        due("folds()", x.folds(), 8);
        List<Integer> before = told(x);
        due("a ninth", x.fold(0, 3, 1, true), FULL);
        due("a ninth, to the other side", x.fold(0, 3, 0, false), FULL);
        due("a ninth where nothing lies: STATE is told first", x.fold(0, 0, 0, true), STATE);
        due("a ninth where all lies: STATE is told first", x.fold(0, 0, 1, true), STATE);
        due("a ninth that is bad: BAD is told first", x.fold(0, 49, 1, true), BAD);
        due("a ninth that is bad: BAD is told first", x.fold(4, 3, 1, true), BAD);
        due("a ninth that is bad: BAD is told first", x.fold(0, 3, 2, true), BAD);
        dueAlike("nothing of it is done", told(x), before);
        OneSnip y = eight();
        due("unfold()", y.unfold(), 7);
        due("an eighth again", y.fold(0, 3, 1, true) > 0 ? 8 : 0, y.folds());
        due("a ninth", y.fold(1, 3, 1, true), FULL);
        y.cut(0, 1, 0);
        due("behind the cut: STATE is told first", y.fold(1, 3, 1, true), STATE);
        OneSnip z = stack();
        for (int sort = 0; sort < 4; sort++) {
            due("all in one place: nothing parts it", z.fold(sort, 0, 1, true), STATE);
            due("all in one place: nothing parts it", z.fold(sort, 1, 0, true), STATE);
        }
        due("eight on a new sheet", eight().folds(), 8);
    }

    private static void unfolding() {
        sentence = "The latest FOLD is undone: how many are left. STATE: there is none";
        due("unfold() of none", new OneSnip().unfold(), STATE);
        OneSnip x = stack();
        int[] places = {144, 72, 48, 24, 12, 8, 4, 2, 1};
        for (int left = 7; left >= 0; left--) {
            due("unfold()", x.unfold(), left);
            due("folds()", x.folds(), left);
            due("places()", x.places(), places[left]);
        }
        due("unfold() of none", x.unfold(), STATE);
        dueAlike("as at first", told(x), told(of(6)));
        sentence = "also behind the cut; what FELL stays so";
        OneSnip c = stack();
        due("cut(1, 0, 1)", c.cut(1, 0, 1), 144);
        for (int left = 7; left >= 0; left--) {
            due("unfold()", c.unfold(), left);
            due("count(1)", c.count(1), 144);
        }
        due("unfold() of none", c.unfold(), STATE);
        due("fold()", c.fold(0, 3, 1, true), STATE);
    }

    // ---- 1 leaves, layers, edges

    private static void theLeaves() {
        for (int n = 1; n <= 6; n++) {
            sentence = "the LEAF's number is 4 (y n + x) and that, n = " + n;
            OneSnip x = of(n);
            for (int leaf = 0; leaf < 4 * n * n; leaf++) {
                due("facet(" + leaf + ", 0)", x.facet(leaf, 0), leaf / 4 % n);
                due("facet(" + leaf + ", 1)", x.facet(leaf, 1), leaf / 4 / n);
                due("facet(" + leaf + ", 2)", x.facet(leaf, 2), leaf % 4);
            }
            sentence = "UNKNOWN -1 (there is no such LEAF), n = " + n;
            int last = 4 * n * n - 1;
            OneSnip y = of(n);
            beside("facet", 0, last, UNKNOWN, leaf -> y.facet(leaf, 0));
            beside("crease", 0, last, UNKNOWN, leaf -> y.crease(leaf, 0));
            beside("neighbour", 0, last, UNKNOWN, leaf -> y.neighbour(leaf, 0));
            beside("piece", 0, last, UNKNOWN, leaf -> y.piece(leaf));
            beside("mark", 0, last, UNKNOWN, leaf -> y.mark(leaf, true));
            beside("mark", 0, last, UNKNOWN, leaf -> y.mark(leaf, false));
            due("count(2)", y.count(2), 0);
            due("crease(0, 0)", y.crease(0, 0), NONE);
            due("neighbour(0, 0)", y.neighbour(0, 0), NONE);
            due("crease(last, 0)", y.crease(last, 0), n == 1 ? NONE : 0);
            due("neighbour(last, 0)", y.neighbour(last, 0), n == 1 ? NONE : last - 6);
            for (int leaf : new int[] {0, last}) {
                due("piece(" + leaf + ")", y.piece(leaf), 0);
                due("mark(" + leaf + ")", y.mark(leaf, true), 0);
                due("mark(" + leaf + ")", y.mark(leaf, true), 1);
            }
            due("count(2)", y.count(2), 2);
        }
        smaller();
        whats();
        layers();
        edges();
    }

    private static void smaller() {
        sentence = "UNKNOWN -1 (there is no such LEAF), behind a larger sheet";
        OneSnip x = of(6);
        x.sheet(2);
        due("facet(15, 0)", x.facet(15, 0), 1);
        due("facet(16, 0)", x.facet(16, 0), UNKNOWN);
        due("piece(16)", x.piece(16), UNKNOWN);
        due("mark(16, true)", x.mark(16, true), UNKNOWN);
        due("crease(143, 0)", x.crease(143, 0), UNKNOWN);
        due("neighbour(143, 0)", x.neighbour(143, 0), UNKNOWN);
        due("at(2, 0, 0, 0)", x.at(2, 0, 0, 0), NONE);
        due("at(0, 2, 0, 0)", x.at(0, 2, 0, 0), NONE);
        due("neighbour(5, 0)", x.neighbour(5, 0), NONE);
        due("markCell(2, 0, true)", x.markCell(2, 0, true), BAD);
        due("degree(3, 0, false)", x.degree(3, 0, false), BAD);
        due("degree(2, 0, true)", x.degree(2, 0, true), BAD);
    }

    private static void whats() {
        OneSnip x = of(3);
        sentence = "Of a LEAF: what 0 .. 7";
        int[] of = {2, 2, 3, 0, 1, 1, 0, 0};
        for (int what = 0; what < 8; what++) {
            due("facet(35, " + what + ")", x.facet(35, what), of[what]);
        }
        beside("facet(35, ..)", 0, 7, BAD, what -> x.facet(35, what));
        sentence = "How far what lies there goes: what 0 .. 3";
        for (int what = 0; what < 4; what++) {
            due("reach(" + what + ")", x.reach(what), what % 2 * 2);
        }
        beside("reach", 0, 3, BAD, x::reach);
        sentence = "count: 0 .. 4";
        int[] counts = {36, 0, 0, 0, 3};
        for (int what = 0; what < 5; what++) {
            due("count(" + what + ")", x.count(what), counts[what]);
        }
        beside("count", 0, 4, BAD, x::count);
        sentence = "BAD: quarter is not 0 .. 3";
        for (int quarter = 0; quarter < 4; quarter++) {
            due("at(2, 2, " + quarter + ", 0)", x.at(2, 2, quarter, 0), 32 + quarter);
            due("at(3, 2, " + quarter + ", 0)", x.at(3, 2, quarter, 0), NONE);
        }
        beside("at(2, 2, .., 0)", 0, 3, BAD, quarter -> x.at(2, 2, quarter, 0));
        beside("at, where nothing lies", 0, 3, BAD, quarter -> x.at(-1, 7, quarter, 9));
    }

    private static void layers() {
        sentence = "LEAVES in one PLACE lie in LAYERS 0, 1, .. from below";
        OneSnip flat = of(1);
        due("layer 0 of a flat sheet", flat.at(0, 0, 3, 0), 3);
        beside("layers of a flat sheet", 0, 0, NONE, layer -> flat.at(0, 0, 3, layer));
        OneSnip x = stack();
        due("deepest()", x.deepest(), 144);
        due("places()", x.places(), 1);
        boolean[] met = new boolean[144];
        int found = 0;
        for (int layer = 0; layer < 144; layer++) {
            int leaf = x.at(0, 0, 0, layer);
            boolean is = leaf >= 0 && leaf < 144 && !met[leaf];
            due("a leaf not met with before in layer " + layer, is ? 1 : 0, 1);
            if (is) {
                met[leaf] = true;
                found++;
                due("facet(" + leaf + ", 3)", x.facet(leaf, 3), layer);
            }
        }
        due("all of them", found, 144);
        beside("layers of the stack", 0, 143, NONE, layer -> x.at(0, 0, 0, layer));
        for (int quarter = 1; quarter < 4; quarter++) {
            due("at(0, 0, " + quarter + ", 0)", x.at(0, 0, quarter, 0), NONE);
        }
        due("facet(0, 5)", x.facet(0, 5), 144);
        due("facet(143, 5)", x.facet(143, 5), 144);
        due("leaf 0 lies lowest", x.facet(0, 3), 0);
        due("every other one shows its front down", x.count(3), 72);
    }

    private static void edges() {
        sentence = "EDGES of a LEAF: 0 the outer one, 1 and 2 the two from the middle, against the clock";
        for (int n : new int[] {1, 2, 6}) {
            for (int quarter = 0; quarter < 4; quarter++) {
                int last = 4 * (n * n - 1);
                OneSnip x = of(n);
                int leaf = last + quarter;
                int outer = quarter == 0 && n > 1 ? leaf - 4 * n + 2 : quarter == 3 && n > 1 ? leaf - 6 : NONE;
                due("neighbour(" + leaf + ", 0)", x.neighbour(leaf, 0), outer);
                due("neighbour(" + leaf + ", 1)", x.neighbour(leaf, 1), last + (quarter + 1) % 4);
                due("neighbour(" + leaf + ", 2)", x.neighbour(leaf, 2), last + (quarter + 3) % 4);
                due("crease(" + leaf + ", 0)", x.crease(leaf, 0), outer == NONE ? NONE : 0);
                due("crease(" + leaf + ", 1)", x.crease(leaf, 1), 0);
                due("crease(" + leaf + ", 2)", x.crease(leaf, 2), 0);
                beside("neighbour(" + leaf + ", ..)", 0, 2, BAD, edge -> x.neighbour(leaf, edge));
                beside("crease(" + leaf + ", ..)", 0, 2, BAD, edge -> x.crease(leaf, edge));
            }
        }
        sentence = "NONE: there is no NEIGHBOUR";
        OneSnip x = of(6);
        int none = 0;
        for (int leaf = 0; leaf < 144; leaf++) {
            int row = leaf / 4 / 6;
            int column = leaf / 4 % 6;
            int quarter = leaf % 4;
            boolean isOut = quarter == 0 && row == 0 || quarter == 1 && column == 5 || quarter == 2 && row == 5
                || quarter == 3 && column == 0;
            due("neighbour(" + leaf + ", 0) is none", x.neighbour(leaf, 0) == NONE ? 1 : 0, isOut ? 1 : 0);
            none += x.crease(leaf, 0) == NONE ? 1 : 0;
        }
        due("crease(.., 0) with none", none, 24);
    }

    // ---- 1 creases

    private static void theCreases() {
        sentence = "A VALLEY, if OVER and FRONTS are up, or UNDER and FRONTS are down, else a MOUNTAIN";
        for (int first = 0; first < 2; first++) {
            for (int second = 0; second < 2; second++) {
                for (int side = 0; side < 4; side++) {
                    OneSnip x = of(2);
                    x.fold(0, 1, side % 2, first == 1);
                    x.fold(1, 1, side / 2, second == 1);
                    due("of the first fold", x.crease(1, 0), first == 1 ? 1 : 2);
                    due("of the first fold, in the part turned", x.crease(9, 0), first == 1 ? 1 : 2);
                    // The cells of the half that the first fold turned show their fronts down at the second.
                    int up = side % 2 == 0 ? 6 : 2;
                    int down = side % 2 == 0 ? 2 : 6;
                    due("fronts up", x.crease(up, 0), second == 1 ? 1 : 2);
                    due("fronts down", x.crease(down, 0), second == 1 ? 2 : 1);
                    due("valleys", x.creases(false), (first == 1 ? 2 : 0) + 1);
                    due("mountains", x.creases(true), (first == 1 ? 0 : 2) + 1);
                }
            }
        }
        sentence = "a CREASE: one of which shows its FRONT up and the other one down; 0 flat";
        OneSnip x = of(3);
        due("creases(false) of none", x.creases(false), 0);
        due("creases(true) of none", x.creases(true), 0);
        x.fold(0, 1, 0, true);
        x.fold(0, 2, 0, true);
        due("between fronts down and up", x.crease(1, 0), 1);
        due("at its end", x.crease(5, 0), 1);
        due("both down, within a cell", x.crease(5, 1), 0);
        due("both up", x.crease(9, 1), 0);
        due("both turned twice", x.crease(1, 1), 0);
        due("both turned once", x.crease(6, 0), 0);
        due("both turned twice", x.crease(2, 0), 0);
        due("creases(false)", x.creases(false), 6);
        due("creases(true)", x.creases(true), 0);
        due("degree(1, 0, false)", x.degree(1, 0, false), 1);
        due("degree(1, 3, false)", x.degree(1, 3, false), 1);
        due("degree(2, 1, false)", x.degree(2, 1, false), 2);
        x.unfold();
        due("undone: creases(false)", x.creases(false), 3);
        due("undone: crease(5, 0)", x.crease(5, 0), 0);
    }

    // ---- 2 the cut

    private static void theCut() {
        knives();
        thicknesses();
        oneCut();
    }

    private static void knives() {
        sentence = "THE KNIFE cuts so many (1 .. 144; 144 at first)";
        OneSnip x = new OneSnip();
        due("knife(1)", x.knife(1), 144);
        beside("knife", 1, 144, BAD, x::knife);
        due("knife(144)", x.knife(144), 1);
        beside("knife", 1, 144, BAD, x::knife);
        due("knife(2)", x.knife(2), 144);
        sentence = "FULL: it is too thick";
        OneSnip most = stack();
        most.knife(143);
        due("144 layers, the knife cuts 143", most.cut(1, 0, 1), FULL);
        due("144 layers, the knife cuts 143", most.cut(1, 0, 0), FULL);
        due("nothing fell", most.count(1), 0);
        due("nothing is cut", most.take(), STATE);
        due("bad is told first", most.cut(1, 0, 2), BAD);
        due("bad is told first", most.cut(4, 0, 1), BAD);
        due("bad is told first", most.cut(1, 49, 1), BAD);
        due("knife(144)", most.knife(144), 143);
        due("144 layers, the knife cuts 144", most.cut(1, 0, 1), 144);
        OneSnip first = stack();
        due("144 layers, the knife as at first", first.cut(2, 0, 1), 144);
        OneSnip least = folded(2, 0, 1, 1);
        least.knife(1);
        due("2 layers, the knife cuts 1", least.cut(1, 1, 0), FULL);
        least.unfold();
        due("1 layer, the knife cuts 1", least.cut(1, 1, 0), 8);
        due("cut, and too thick for it: STATE is told first", cutThenThick(), STATE);
        OneSnip none = stack();
        none.knife(1);
        due("no layer, the knife cuts 1", none.cut(1, 1, 0), 144);
    }

    private static int cutThenThick() {
        OneSnip x = folded(2, 0, 1, 1);
        x.cut(0, 0, 0);
        x.knife(1);
        return x.cut(1, 1, 0);
    }

    private static void thicknesses() {
        sentence = "THE THICKNESS of a LINE (0: no PLACE has an EDGE on it)";
        for (int n = 1; n <= 6; n++) {
            int[] least = {0, 0, 1 - n, 1};
            int[] greatest = {n, n, n - 1, 2 * n - 1};
            OneSnip x = of(n);
            for (int sort = 0; sort < 4; sort++) {
                for (int k = LEAST; k <= GREATEST; k++) {
                    boolean is = k >= least[sort] && k <= greatest[sort];
                    due(n + " by " + n + ": thickness(" + sort + ", " + k + ")", x.thickness(sort, k), is ? 1 : 0);
                }
            }
        }
        OneSnip all = stack();
        int[][] want = {{1, 0, 144}, {2, 0, 144}, {3, 1, 144}, {1, 1, 0}, {0, 0, 0}, {0, 1, 0}, {2, 1, 0}, {2, -1, 0},
            {3, 0, 0}, {3, 2, 0}};
        for (int[] row : want) {
            due("of the stack: thickness(" + row[0] + ", " + row[1] + ")", all.thickness(row[0], row[1]), row[2]);
        }
        sentence = "the most LAYERS of a PLACE that has an EDGE on it";
        OneSnip part = folded(3, 0, 0, 1);
        due("the edge of the fold", part.thickness(0, 1), 2);
        due("between two layers and one", part.thickness(0, 2), 2);
        due("one layer", part.thickness(0, 3), 1);
        due("none is left there", part.thickness(0, 0), 0);
    }

    private static void oneCut() {
        sentence = "ONE CUT may be made. (Then nothing is FOLDED or cut any more; unfolding goes on.)";
        int[][] cuts = {{0, 1, 0, 16}, {0, 0, 0, 0}, {0, 0, 1, 16}, {1, 2, 1, 0}, {1, 2, 0, 16}, {3, 1, 0, 4}};
        for (int[] row : cuts) {
            OneSnip x = folded(2, 0, 1, 1);
            due("take() ahead of it", x.take(), STATE);
            due("cut", x.cut(row[0], row[1], row[2]), row[3]);
            due("count(1)", x.count(1), row[3]);
            List<Integer> before = told(x);
            due("cut there again", x.cut(row[0], row[1], row[2]), STATE);
            due("cut to the other side", x.cut(row[0], row[1], 1 - row[2]), STATE);
            due("cut elsewhere", x.cut(2, 0, 1), STATE);
            due("fold", x.fold(1, 1, 0, true), STATE);
            due("fold of nothing", x.fold(0, 5, 0, true), STATE);
            due("a bad cut: BAD is told first", x.cut(2, 49, 1), BAD);
            due("a bad fold: BAD is told first", x.fold(2, -25, 1, true), BAD);
            dueAlike("nothing of it is done", told(x), before);
            due("unfold()", x.unfold(), 0);
            due("count(1)", x.count(1), row[3]);
            due("unfold() of none", x.unfold(), STATE);
            due("take()", x.take(), row[3]);
        }
    }

    // ---- 2 what fell

    private static void whatFell() {
        sentence = "PIECES of what FELL, of what is left: none and all";
        for (int n = 1; n <= 6; n++) {
            OneSnip not = of(n);
            OneSnip none = of(n);
            OneSnip all = of(n);
            none.cut(0, 0, 0);
            all.cut(0, 0, 1);
            OneSnip[] three = {not, none, all};
            for (int i = 0; i < 3; i++) {
                due("pieces(false)", three[i].pieces(false), i == 2 ? 1 : 0);
                due("pieces(true)", three[i].pieces(true), i == 2 ? 0 : 1);
                due("holes()", three[i].holes(), 0);
                due("rims(false)", three[i].rims(false), 0);
                due("rims(true)", three[i].rims(true), 0);
                due("piece(last)", three[i].piece(4 * n * n - 1), 0);
                due("facet(last, 6)", three[i].facet(4 * n * n - 1, 6), i == 2 ? 1 : 0);
            }
        }
        byEdges();
        onTheEdge();
    }

    private static void byEdges() {
        sentence = "LEAVES that hang together by NEIGHBOURS: not by points";
        OneSnip x = folded(2, 0, 1, 1);
        foldOn(x, 1, 1, 1);
        foldOn(x, 2, 0, 0);
        // Each cell loses the half towards the sheet's middle; the halves left meet in points on the edge.
        due("cut(3, 1, 1)", x.cut(3, 1, 1), 8);
        due("pieces(false)", x.pieces(false), 1);
        due("pieces(true)", x.pieces(true), 4);
        due("rims(true)", x.rims(true), 8);
        due("rims(false)", x.rims(false), 0);
        OneSnip y = folded(2, 2, 0, 0);
        foldOn(y, 3, 1, 2);
        // The lower left cell and the upper right one: each pair of cells meets in the sheet's middle alone.
        due("cut(0, 1, 0)", y.cut(0, 1, 0), 8);
        due("two cells: pieces(false)", y.pieces(false), 2);
        due("two cells: pieces(true)", y.pieces(true), 2);
        due("two cells: piece(15)", y.piece(15), 12);
        due("two cells: rims(false)", y.rims(false), 4);
        due("two cells: rims(true)", y.rims(true), 0);
        due("two cells: holes()", y.holes(), 0);
    }

    private static void onTheEdge() {
        sentence = "A HOLE is a PIECE of what FELL that has no EDGE on the SHEET's own edge";
        OneSnip x = folded(2, 0, 1, 1);
        foldOn(x, 1, 1, 1);
        x.cut(3, 1, 1);
        due("it touches the edge in four points", x.holes(), 1);
        OneSnip one = of(1);
        one.cut(2, 0, 0);
        due("1 by 1: each leaf has an edge there", one.holes(), 0);
        OneSnip inner = folded(3, 2, 0, 0);
        foldOn(inner, 3, 0, 3);
        due("the middle cell", inner.cut(0, 2, 0), 4);
        due("the middle cell is a hole", inner.holes(), 1);
        OneSnip rest = folded(3, 2, 0, 0);
        foldOn(rest, 3, 0, 3);
        due("all but the middle cell", rest.cut(0, 2, 1), 32);
        due("the frame is none", rest.holes(), 0);
        due("pieces(false)", rest.pieces(false), 1);
        due("rims(false), from either side", rest.rims(false), 4);
        due("piece(16): the middle one, by itself", rest.piece(16), 16);
    }

    // ---- 3 figures

    private static void theFigure() {
        sentence = "A FIGURE is a set of LEAVES (none at first)";
        for (int n = 1; n <= 6; n++) {
            int leaves = 4 * n * n;
            OneSnip x = of(n);
            due("count(2)", x.count(2), 0);
            due("same() of none and none", x.same(), 1);
            for (int leaf = 0; leaf < leaves; leaf++) {
                due("mark(" + leaf + ", true)", x.mark(leaf, true), 0);
            }
            due("all: count(2)", x.count(2), leaves);
            due("same()", x.same(), 0);
            due("mark(last, true)", x.mark(leaves - 1, true), 1);
            due("count(2)", x.count(2), leaves);
            due("all: mirrors()", x.mirrors(), n % 2 == 0 ? 4 : 2);
            due("cut", x.cut(0, 0, 1), leaves);
            due("same() of all and all", x.same(), 1);
            due("mark(last, false)", x.mark(leaves - 1, false), 1);
            due("same() but for the last one", x.same(), 0);
            due("mark(last, true)", x.mark(leaves - 1, true), 0);
            due("mark(0, false)", x.mark(0, false), 1);
            due("same() but for the first one", x.same(), 0);
            due("take()", x.take(), leaves);
            due("same()", x.same(), 1);
        }
        sentence = "The FIGURE becomes what FELL: how many LEAVES. STATE: nothing is cut";
        OneSnip y = marked(2, 0, 15);
        due("take()", y.take(), STATE);
        due("count(2)", y.count(2), 2);
        due("cut, and nothing falls", y.cut(0, 2, 1), 0);
        due("same()", y.same(), 0);
        due("take() of nothing", y.take(), 0);
        due("count(2)", y.count(2), 0);
        due("same()", y.same(), 1);
        mirrors();
    }

    private static void mirrors() {
        sentence = "A MIRROR: each LEAF's mirrored PLACE is one of the SHEET";
        for (int n = 1; n <= 6; n++) {
            OneSnip x = of(n);
            int found = 0;
            for (int sort = 0; sort < 4; sort++) {
                for (int k = LEAST; k <= GREATEST; k++) {
                    boolean is = sort < 2 ? 2 * k == n : sort == 2 ? k == 0 : k == n;
                    due(n + " by " + n + ": mirror(" + sort + ", " + k + ")", x.mirror(sort, k), is ? 1 : 0);
                    found += is ? 1 : 0;
                }
            }
            due("mirrors()", x.mirrors(), found);
        }
        sentence = "and is of the FIGURE just if the LEAF is";
        // No mirror leaves a leaf where it is: of one alone there is none, of it and a mirrored one just that line.
        due("one leaf: mirrors()", marked(2, 0).mirrors(), 0);
        int[] mirrored = {4, 10, 3, 13};
        int[] ks = {1, 1, 0, 2};
        for (int sort = 0; sort < 4; sort++) {
            OneSnip x = marked(2, 0, mirrored[sort]);
            due("0 and " + mirrored[sort] + ": mirrors()", x.mirrors(), 1);
            due("0 and " + mirrored[sort] + ": the line", x.mirror(sort, ks[sort]), 1);
            x.mark(2, true);
            due("and one more: the line", x.mirror(sort, ks[sort]), 0);
            due("and one more: mirrors()", x.mirrors(), 0);
        }
        OneSnip whole = of(6);
        whole.fold(0, 1, 0, true);
        due("of the sheet, however it is folded: mirrors()", whole.mirrors(), 4);
    }

    // ---- 3 ways

    private static void theWays() {
        lengths();
        noneAndAll();
        numbers();
        spent();
        fitting();
        calls();
    }

    private static int search(int number, OneSnip x, int f) {
        return number == 30 ? x.fewest(f) : number == 31 ? x.way(f, 0) : x.ways(f);
    }

    private static void lengths() {
        for (int number = 30; number <= 32; number++) {
            int call = number;
            sentence = "A WAY of f FOLDS (0 .. 3), promise " + number;
            OneSnip x = of(2);
            beside("f", 0, 3, BAD, f -> search(call, x, f));
            int[] want = {0, -1400, 284};
            for (int f = 0; f <= 3; f++) {
                due("f = " + f, search(number, x, f), want[number - 30]);
            }
        }
        sentence = "BAD: f, with any number i";
        beside("way(.., -1)", 0, 3, BAD, f -> of(1).way(f, -1));
        beside("way(.., 5)", 0, 3, BAD, f -> of(1).way(f, 5));
    }

    private static void noneAndAll() {
        sentence = "and a LINE (k -24 .. 48) with a side, so that just the FIGURE would FALL then";
        for (int n = 1; n <= 6; n++) {
            OneSnip none = of(n);
            OneSnip all = of(n);
            for (int i = 0; i < n * n; i++) {
                all.markCell(i % n, i / n, true);
            }
            // 73 lines of each sort, and beyond the sheet all but n - 1, n - 1, 2 n - 1 and 2 n - 1 of them.
            int lines = 4 * 73 - 2 * (n - 1) - 2 * (2 * n - 1);
            for (int f = 0; f <= 3; f++) {
                due("none of " + n + " by " + n + ": ways(" + f + ")", none.ways(f), lines);
                due("all of " + n + " by " + n + ": ways(" + f + ")", all.ways(f), lines);
                due("none: fewest(" + f + ")", none.fewest(f), 0);
                due("all: fewest(" + f + ")", all.fewest(f), 0);
                due("none: way(" + f + ", 0)", none.way(f, 0), -1400);
                due("all: way(" + f + ", 0)", all.way(f, 0), -1399);
                due("none: way(" + f + ", 1)", none.way(f, 1), NONE);
                due("all: way(" + f + ", 1)", all.way(f, 1), NONE);
            }
        }
    }

    private static void numbers() {
        numbersOf(2, new int[] {4, 5, 6, 7, 12, 13, 14, 15}, 0, new int[] {1101}, 1);
        numbersOf(2, new int[] {0, 3, 13, 14}, 1, new int[] {1230, 1331}, 2);
        // Two cells in a row at the edge: the fold lays one of them beyond the sheet.
        numbersOf(3, new int[] {24, 25, 26, 27, 28, 29, 30, 31}, 1, new int[] {1430, 1200}, 2);
        numbersOf(3, new int[] {20, 21, 22, 23, 32, 33, 34, 35}, 1, new int[] {1120, 1111}, 2);
        numbersOf(3, new int[] {16, 17, 18, 19}, 2, new int[] {1020, 1330, 1200}, 8);
        numbersOf(2, new int[] {0, 3, 4, 5, 10, 11, 13, 14}, 2, new int[] {1100, 1110, 1331}, 8);
        int[] star = {0, 3, 12, 13, 21, 22, 26, 27, 36, 37, 40, 43, 50, 51, 61, 62};
        numbersOf(4, star, 3, new int[] {1200, 1210, 1630, 1731}, 16);
    }

    /** The leaves, and all but them, for which the same folds do, and the other side of the cut. */
    private static void numbersOf(int n, int[] leaves, int fewest, int[] told, int ways) {
        OneSnip x = marked(n, leaves);
        OneSnip others = of(n);
        for (int leaf = 0; leaf < 4 * n * n; leaf++) {
            others.mark(leaf, x.facet(leaf, 7) == 0);
        }
        numbersOf(x, fewest, told, ways);
        int[] turned = told.clone();
        turned[fewest] ^= 1;
        numbersOf(others, fewest, turned, ways);
    }

    private static void numbersOf(OneSnip x, int fewest, int[] told, int ways) {
        sentence = "The fewest FOLDS of a WAY, f at most; NONE; here " + fewest;
        for (int f = 0; f <= 3; f++) {
            due("fewest(" + f + ")", x.fewest(f), f < fewest ? NONE : fewest);
            due("ways(" + f + ")", x.ways(f), f < fewest ? 0 : ways);
        }
        sentence = "Number i of THE FIRST WAY; NONE: there is none, or not so many; here " + fewest + " folds";
        for (int f = 3; f >= 0; f--) {
            for (int i = 0; i < told.length; i++) {
                due("way(" + f + ", " + i + ")", x.way(f, i), f < fewest ? NONE : told[i]);
            }
            int most = f;
            beside("way(" + f + ", ..)", 0, told.length - 1, NONE, i -> x.way(most, i));
        }
    }

    private static void spent() {
        sentence = "SPENT: there are more than 3000: just 3000, and no way";
        OneSnip x = marked(5, 48, 68, 5);
        due("fewest(3)", x.fewest(3), NONE);
        due("ways(3)", x.ways(3), 0);
        due("way(3, 0)", x.way(3, 0), NONE);
        sentence = "SPENT: there are more than 3000: just 3000, and a way of the last of them";
        OneSnip y = of(6);
        int[][] cells = {{3, 0}, {4, 0}, {5, 0}, {0, 3}, {0, 4}, {0, 5}, {5, 5}};
        for (int[] cell : cells) {
            y.markCell(cell[0], cell[1], true);
        }
        due("fewest(2)", y.fewest(2), NONE);
        due("fewest(3)", y.fewest(3), 3);
        due("ways(3)", y.ways(3), 24);
        int[] way = {1020, 1310, 820, 1511};
        for (int i = 0; i < 4; i++) {
            due("way(3, " + i + ")", y.way(3, i), way[i]);
        }
        due("way(3, 4)", y.way(3, 4), NONE);
        sentence = "SPENT: there are more than 3000: 3002";
        for (int number = 30; number <= 32; number++) {
            OneSnip z = marked(6, 1, 19, 75);
            int none = number == 32 ? 0 : NONE;
            due("promise " + number + ", f = 3", search(number, z, 3), SPENT);
            due("promise " + number + ", f = 2", search(number, z, 2), none);
            due("promise " + number + ", f = 0", search(number, z, 0), none);
            due("promise " + number + ", f = 3", search(number, z, 3), SPENT);
            due("promise " + number + ", f = 4: BAD is told first", search(number, z, 4), BAD);
            due("promise " + number + ", f = -1: BAD is told first", search(number, z, -1), BAD);
        }
        OneSnip z = marked(6, 1, 19, 75);
        due("way(3, 4)", z.way(3, 4), SPENT);
        spentWithAWay();
    }

    private static void spentWithAWay() {
        sentence = "SPENT: of 1, 2, .. FOLDS up to the fewest of which there is a WAY";
        OneSnip x = marked(4, 17, 18, 22, 23, 25, 26, 30, 31, 32, 33, 36, 39, 40, 41, 44, 47);
        due("3164 rows, and a way of 3", x.fewest(3), SPENT);
        due("3164 rows, and a way of 3", x.ways(3), SPENT);
        due("3164 rows, and a way of 3", x.way(3, 0), SPENT);
        due("not so many up to 2", x.fewest(2), NONE);
        OneSnip y = of(6);
        for (int i = 0; i < 18; i++) {
            y.markCell(i % 3, i / 3, true);
        }
        due("rows of folds are not counted where none is needed", y.fewest(3), 0);
        due("one cut", y.ways(3), 1);
    }

    private static void fitting() {
        sentence = "in no PLACE there are LEAVES of the FIGURE and others";
        // The lower leaf alone: each fold of 1 by 1 would lay one of the others upon it.
        OneSnip x = marked(1, 0);
        due("fewest(3)", x.fewest(3), NONE);
        sentence = "whatever THE KNIFE cuts; from the SHEET as it is at first";
        OneSnip y = marked(2, 0, 3, 4, 5, 10, 11, 13, 14);
        y.knife(1);
        due("fewest(3), the knife cuts 1", y.fewest(3), 2);
        y.fold(2, 1, 1, false);
        due("ways(3), folded", y.ways(3), 8);
        y.cut(0, 0, 1);
        due("way(3, 2), cut", y.way(3, 2), 1331);
        y.unfold();
        due("fewest(3), unfolded", y.fewest(3), 2);
        due("count(2)", y.count(2), 8);
    }

    private static void calls() {
        sentence = "An object is used for at most 512 calls";
        OneSnip x = new OneSnip();
        for (int i = 0; i < 170; i++) {
            due("fold " + i, x.fold(0, 2, 1, true), 32);
            due("unfold " + i, x.unfold(), 0);
            due("mark " + i, x.mark(i % 64, true), i < 64 ? 0 : 1);
        }
        due("call 511", x.count(2), 64);
        due("call 512", x.fewest(3), 0);
    }

    // ---- 4 refusals

    /** What is told of an object of 2 by 2 and more, by some 200 calls that change nothing. */
    private static List<Integer> told(OneSnip x) {
        List<Integer> all = new ArrayList<>();
        for (int what = 0; what < 5; what++) {
            all.add(x.count(what));
        }
        for (int what = 0; what < 4; what++) {
            all.add(x.reach(what));
        }
        all.add(x.folds());
        all.add(x.places());
        all.add(x.deepest());
        all.add(x.same());
        all.add(x.holes());
        for (boolean is : new boolean[] {false, true}) {
            all.add(x.creases(is));
            all.add(x.pieces(is));
            all.add(x.rims(is));
            all.add(x.degree(1, 1, is && x.count(4) > 1));
        }
        int step = Math.max(1, x.count(0) / 16);
        for (int leaf = 0; leaf < x.count(0) && all.size() < 180; leaf += step) {
            for (int what = 0; what < 8; what++) {
                all.add(x.facet(leaf, what));
            }
            all.add(x.piece(leaf));
        }
        return all;
    }

    private static void theRefusals() {
        sentence = "What is refused changes nothing";
        for (int when = 0; when < 3; when++) {
            OneSnip x = inTheMiddle(when);
            refuse(x);
            due("take(), where nothing is cut", when == 1 ? STATE : x.take(), STATE);
            due("cut(3, 1, 0)", x.cut(3, 1, 0), when == 1 ? STATE : FULL);
            OneSnip y = inTheMiddle(when);
            dueAlike("behind all refusals", told(x), told(y));
            due("fewest(2)", x.fewest(2), y.fewest(2));
            due("way(2, 0)", x.way(2, 0), y.way(2, 0));
            due("knife(9)", x.knife(9), 1);
            due("unfold()", x.unfold(), y.unfold());
            dueAlike("and unfolded", told(x), told(y));
        }
        sentence = "Of several what is told first: UNKNOWN -1, BAD -2";
        OneSnip x = of(2);
        due("facet(16, 8)", x.facet(16, 8), UNKNOWN);
        due("facet(-1, -1)", x.facet(-1, -1), UNKNOWN);
        due("crease(16, 3)", x.crease(16, 3), UNKNOWN);
        due("crease(-1, -1)", x.crease(-1, -1), UNKNOWN);
        due("neighbour(16, 3)", x.neighbour(16, 3), UNKNOWN);
        due("neighbour(-1, -1)", x.neighbour(-1, -1), UNKNOWN);
        due("crease(0, 3): no such edge, so BAD", x.crease(0, 3), BAD);
        due("neighbour(0, -1): no such edge, so BAD", x.neighbour(0, -1), BAD);
    }

    /** 2 by 2, folded twice, a figure of three; then nothing more, or cut, or folded till it can't be any more. */
    private static OneSnip inTheMiddle(int when) {
        OneSnip x = of(2);
        x.fold(0, 1, 1, true);
        x.fold(2, 0, 0, false);
        for (int leaf : new int[] {1, 6, 15}) {
            x.mark(leaf, true);
        }
        if (when == 1) {
            due("cut(3, 1, 0)", x.cut(3, 1, 0), 4);
        }
        if (when == 2) {
            x.fold(1, 1, 1, true);
            x.fold(3, 1, 1, true);
        }
        x.knife(1);
        return x;
    }

    private static void refuse(OneSnip x) {
        for (String call : ON_LINES) {
            for (int[] line : new int[][] {{-1, 0}, {4, 0}, {0, -25}, {0, 49}}) {
                due(call, onLine(call, x, line[0], line[1], 0), BAD);
            }
        }
        for (String call : new String[] {"fold", "would", "cut"}) {
            due(call, onLine(call, x, 0, 1, 2), BAD);
            due(call, onLine(call, x, 0, 1, -1), BAD);
        }
        int[] bad = {x.sheet(0), x.sheet(7), x.facet(0, 8), x.at(0, 0, 4, 0), x.reach(4), x.crease(0, 3),
            x.neighbour(0, 3), x.balance(3, 0, false), x.degree(2, 0, true), x.knife(0), x.knife(145),
            x.markCell(2, 0, true), x.markCell(0, -1, false), x.fewest(4), x.way(-1, 0), x.ways(4), x.count(5)};
        for (int i = 0; i < bad.length; i++) {
            due("bad call " + i, bad[i], BAD);
        }
        int[] unknown = {x.facet(16, 0), x.crease(16, 0), x.neighbour(-1, 0), x.piece(16), x.mark(16, true),
            x.mark(-1, false)};
        for (int i = 0; i < unknown.length; i++) {
            due("call of an unknown leaf " + i, unknown[i], UNKNOWN);
        }
        due("fold of nothing", x.fold(0, 48, 1, true), STATE);
        due("fold of all", x.fold(0, 48, 0, true), STATE);
    }
}
