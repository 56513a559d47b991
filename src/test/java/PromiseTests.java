/** The promises of ../shared/DOC.md one by one: ordinary calls, the edges that the document names, wrong calls. */
public final class PromiseTests {
    private static final int UNKNOWN = -1, BAD = -2, STATE = -3, FULL = -4, SPENT = -5, NONE = -99999;
    private static final int[] FAR = {Integer.MIN_VALUE, Integer.MAX_VALUE, -1000, 1000, 1 << 30};

    private static int wrong = 0;
    private static String promise = "";

    public static void main(String[] args) {
        aNewObject();
        sheet();
        fold();
        foldRefused();
        unfold();
        facet();
        at();
        places();
        deepest();
        reach();
        folds();
        crease();
        neighbour();
        creases();
        balance();
        degree();
        knife();
        thickness();
        would();
        cut();
        pieces();
        holes();
        rims();
        piece();
        mark();
        markCell();
        take();
        same();
        mirror();
        mirrors();
        fewest();
        way();
        ways();
        spent();
        count();
        constants();
        readme();
        if (wrong != 0) {
            System.out.println(wrong + " answers are not as due");
            System.exit(1);
        }
    }

    private static void due(String call, long got, long want) {
        if (got != want) {
            wrong++;
            System.out.println(promise + ": " + call + " answered " + got + ", due is " + want);
        }
    }

    private static OneSnip of(int n) {
        OneSnip x = new OneSnip();
        x.sheet(n);
        return x;
    }

    /** 2 by 2, the right half upon the left one, the upper upon the lower: 4 layers in the one cell 0, 0. */
    private static OneSnip quartered() {
        OneSnip x = of(2);
        x.fold(0, 1, 1, true);
        x.fold(1, 1, 1, true);
        return x;
    }

    /** 6 by 6, folded eight times, into the one cell 0, 2. */
    private static OneSnip full() {
        OneSnip x = of(6);
        for (int k = 5; k >= 1; k--) {
            due("fold(0, " + k + ", 1)", x.fold(0, k, 1, true), 24L * k);
        }
        due("fold(1, 1, 0)", x.fold(1, 1, 0, true), 20);
        due("fold(1, 2, 0)", x.fold(1, 2, 0, true), 16);
        due("fold(1, 5, 1)", x.fold(1, 5, 1, true), 12);
        return x;
    }

    private static void aNewObject() {
        promise = "promise 1";
        OneSnip x = new OneSnip();
        due("count(4)", x.count(4), 4);
        due("count(0)", x.count(0), 64);
        due("count(1)", x.count(1), 0);
        due("count(2)", x.count(2), 0);
        due("count(3)", x.count(3), 0);
        due("folds()", x.folds(), 0);
        due("places()", x.places(), 64);
        due("deepest()", x.deepest(), 1);
        due("unfold()", x.unfold(), STATE);
        due("take()", x.take(), STATE);
        due("creases(false)", x.creases(false), 0);
        due("creases(true)", x.creases(true), 0);
        // One object is good for 512 calls alone.
        for (int what = 0; what < 8; what++) {
            OneSnip y = new OneSnip();
            for (int leaf = 0; leaf < 64; leaf++) {
                int[] want = {leaf / 4 % 4, leaf / 16, leaf % 4, 0, 1, 1, 0, 0};
                due("facet(" + leaf + ", " + what + ")", y.facet(leaf, what), want[what]);
            }
        }
        due("knife(1)", x.knife(1), 144);
    }

    private static void sheet() {
        promise = "promise 2";
        OneSnip x = new OneSnip();
        due("sheet(1)", x.sheet(1), 4);
        due("sheet(6)", x.sheet(6), 1);
        due("count(0)", x.count(0), 144);
        due("sheet(3)", x.sheet(3), 6);
        x.knife(7);
        x.fold(0, 1, 0, true);
        x.mark(5, true);
        x.cut(3, 2, 0);
        for (int bad : new int[] {0, 7, -1, Integer.MIN_VALUE, Integer.MAX_VALUE}) {
            due("sheet(" + bad + ")", x.sheet(bad), BAD);
        }
        due("folds() behind a refused sheet", x.folds(), 1);
        due("count(2) behind a refused sheet", x.count(2), 1);
        due("count(1) behind a refused sheet", x.count(1) > 0 ? 1 : 0, 1);
        due("sheet(3)", x.sheet(3), 3);
        due("folds()", x.folds(), 0);
        due("places()", x.places(), 36);
        due("deepest()", x.deepest(), 1);
        due("count(1)", x.count(1), 0);
        due("count(2)", x.count(2), 0);
        due("count(3)", x.count(3), 0);
        due("pieces(false)", x.pieces(false), 0);
        due("pieces(true)", x.pieces(true), 1);
        due("take()", x.take(), STATE);
        due("unfold()", x.unfold(), STATE);
        due("fold(0, 1, 0, true) on the new sheet", x.fold(0, 1, 0, true), 24);
        due("the knife is that of before", x.knife(7), 7);
        for (int leaf = 0; leaf < 36; leaf++) {
            due("facet(" + leaf + ", 6)", x.facet(leaf, 6), 0);
            due("facet(" + leaf + ", 7)", x.facet(leaf, 7), 0);
        }
        due("same()", x.same(), 1);
    }

    private static void fold() {
        promise = "promise 3";
        OneSnip x = of(2);
        due("fold over", x.fold(0, 1, 1, true), 8);
        due("the moved one lies above", x.at(0, 0, 0, 1), 4);
        due("its right leaf lies left", x.at(0, 0, 3, 1), 5);
        due("fold over again", x.fold(1, 1, 1, true), 4);
        int[] lower = {0, 4, 14, 10};
        for (int layer = 0; layer < 4; layer++) {
            due("own layers in turned order, " + layer, x.at(0, 0, 0, layer), lower[layer]);
        }
        int[] up = {1, 0, 1, 0};
        for (int layer = 0; layer < 4; layer++) {
            due("front of layer " + layer, x.facet(lower[layer], 4), up[layer]);
        }
        OneSnip y = of(2);
        due("fold under", y.fold(0, 1, 1, false), 8);
        due("the moved one lies beneath", y.at(0, 0, 0, 0), 4);
        due("the other one above", y.at(0, 0, 0, 1), 0);
        due("fold under again", y.fold(1, 1, 1, false), 4);
        int[] under = {10, 14, 4, 0};
        for (int layer = 0; layer < 4; layer++) {
            due("turned order beneath, " + layer, y.at(0, 0, 0, layer), under[layer]);
        }
        OneSnip z = of(3);
        due("fold where the moved side is the wider one", z.fold(0, 1, 1, true), 24);
        due("it goes beyond the sheet", z.at(-1, 0, 0, 0), 8);
        due("with a layer there", z.facet(4, 3), 1);
        OneSnip d = of(2);
        due("a fold along x - y = 1", d.fold(2, 1, 1, true), 14);
        due("the lower right corner comes up", d.facet(4, 2), 3);
        due("the right leaf becomes an upper one", d.facet(5, 2), 2);
        due("x of leaf 4", d.facet(4, 0), 1);
        due("y of leaf 4", d.facet(4, 1), 0);
        due("a fold along x + y = 3", d.fold(3, 3, 1, false), 12);
        due("the upper leaf becomes a left one", d.facet(14, 2), 3);
        due("the right leaf becomes a lower one", d.facet(13, 2), 0);
        due("beneath", d.facet(13, 3), 0);
        due("and it lifts what lay there", d.facet(12, 3), 1);
    }

    private static void foldRefused() {
        OneSnip x = of(2);
        for (int sort : new int[] {-1, 4, Integer.MIN_VALUE, Integer.MAX_VALUE}) {
            due("fold(" + sort + ", 1, 1)", x.fold(sort, 1, 1, true), BAD);
        }
        for (int k : new int[] {-25, 49, Integer.MIN_VALUE, Integer.MAX_VALUE}) {
            due("fold(0, " + k + ", 1)", x.fold(0, k, 1, true), BAD);
        }
        for (int side : new int[] {-1, 2, Integer.MIN_VALUE, Integer.MAX_VALUE}) {
            due("fold(0, 1, " + side + ")", x.fold(0, 1, side, true), BAD);
        }
        due("all on the greater side", x.fold(0, 0, 1, true), STATE);
        due("none on the lesser side", x.fold(0, 0, 0, true), STATE);
        due("fold(1, 2, 0)", x.fold(1, 2, 0, true), STATE);
        due("fold(1, 2, 1)", x.fold(1, 2, 1, true), STATE);
        due("fold(2, 2, 1)", x.fold(2, 2, 1, true), STATE);
        due("fold(2, -2, 0)", x.fold(2, -2, 0, true), STATE);
        due("fold(3, 0, 0)", x.fold(3, 0, 0, true), STATE);
        due("fold(3, 4, 1)", x.fold(3, 4, 1, true), STATE);
        due("fold(0, -24, 1)", x.fold(0, -24, 1, true), STATE);
        due("fold(0, 48, 1)", x.fold(0, 48, 1, true), STATE);
        due("nothing was folded", x.places() * 10 + x.folds(), 160);
        OneSnip f = full();
        due("a ninth fold", f.fold(1, 3, 1, true), FULL);
        due("a ninth fold of nothing", f.fold(0, 1, 1, true), STATE);
        due("a ninth fold that is bad", f.fold(4, 0, 0, true), BAD);
        due("folds()", f.folds(), 8);
        due("places()", f.places(), 12);
        f.unfold();
        due("eight again", f.fold(1, 5, 1, false), 12);
        OneSnip c = of(2);
        c.cut(0, 1, 0);
        due("fold behind the cut", c.fold(0, 1, 1, true), STATE);
        due("bad fold behind the cut", c.fold(0, 1, 2, true), BAD);
        OneSnip e = full();
        e.cut(0, 0, 0);
        due("cut ahead of full", e.fold(1, 3, 1, true), STATE);
    }

    private static void unfold() {
        promise = "promise 4";
        OneSnip x = of(2);
        due("unfold() at first", x.unfold(), STATE);
        x.fold(0, 1, 1, false);
        x.fold(1, 1, 0, true);
        x.fold(2, -1, 1, true);
        due("unfold()", x.unfold(), 2);
        due("places()", x.places(), 4);
        due("layer of 8", x.facet(8, 3), 1);
        due("layer of 12", x.facet(12, 3), 0);
        due("layer of 0", x.facet(0, 3), 2);
        due("layer of 4", x.facet(4, 3), 3);
        due("unfold()", x.unfold(), 1);
        due("layer of 4", x.facet(4, 3), 0);
        due("layer of 0", x.facet(0, 3), 1);
        due("front of 4", x.facet(4, 4), 0);
        due("front of 8", x.facet(8, 4), 1);
        due("creases(true)", x.creases(true), 2);
        due("unfold()", x.unfold(), 0);
        due("places()", x.places(), 16);
        due("count(3)", x.count(3), 0);
        due("creases(true)", x.creases(true), 0);
        due("unfold()", x.unfold(), STATE);
        due("fold() anew", x.fold(2, 0, 1, true), 8);
        OneSnip c = quartered();
        due("cut", c.cut(3, 1, 1), 8);
        due("unfold() behind the cut", c.unfold(), 1);
        due("what fell stays so", c.count(1), 8);
        due("fold() behind that", c.fold(1, 1, 1, true), STATE);
        due("unfold() behind the cut", c.unfold(), 0);
        due("leaf 1 fell", c.facet(1, 6), 1);
        due("leaf 0 did not", c.facet(0, 6), 0);
        due("places()", c.places(), 16);
        due("unfold()", c.unfold(), STATE);
    }

    private static void facet() {
        promise = "promise 5";
        OneSnip x = of(3);
        x.fold(0, 1, 0, true);
        x.fold(0, 2, 0, true);
        x.mark(2, true);
        x.cut(1, 1, 0);
        // Leaf 1: the right one of cell 0, 0, first over to cell 1, 0, then with that one to cell 2, 0.
        int[] one = {2, 0, 1, 1, 1, 3, 1, 0};
        int[] two = {2, 0, 2, 1, 1, 3, 1, 1};
        int[] nine = {2, 0, 1, 0, 1, 3, 1, 0};
        int[] seventeen = {2, 1, 3, 2, 0, 3, 0, 0};
        for (int what = 0; what < 8; what++) {
            due("facet(1, " + what + ")", x.facet(1, what), one[what]);
            due("facet(2, " + what + ")", x.facet(2, what), two[what]);
            due("facet(9, " + what + ")", x.facet(9, what), nine[what]);
            due("facet(17, " + what + ")", x.facet(17, what), seventeen[what]);
        }
        due("facet(35, 0)", x.facet(35, 0), 2);
        due("facet(36, 0)", x.facet(36, 0), UNKNOWN);
        due("facet(-1, 0)", x.facet(-1, 0), UNKNOWN);
        due("facet(0, 8)", x.facet(0, 8), BAD);
        due("facet(0, -1)", x.facet(0, -1), BAD);
        due("facet(36, 8)", x.facet(36, 8), UNKNOWN);
        for (int far : FAR) {
            due("facet(" + far + ", 0)", x.facet(far, 0), UNKNOWN);
            due("facet(0, " + far + ")", x.facet(0, far), BAD);
        }
    }

    private static void at() {
        promise = "promise 6";
        OneSnip x = of(3);
        x.fold(0, 1, 1, false);
        due("at(0, 2, 0, 1)", x.at(0, 2, 0, 1), 24);
        due("at(0, 2, 0, 0)", x.at(0, 2, 0, 0), 28);
        due("at(-1, 1, 1, 0)", x.at(-1, 1, 1, 0), 23);
        due("at(-1, 1, 1, 1)", x.at(-1, 1, 1, 1), NONE);
        due("at(0, 2, 0, 2)", x.at(0, 2, 0, 2), NONE);
        due("at(0, 2, 0, -1)", x.at(0, 2, 0, -1), NONE);
        due("at(1, 0, 0, 0)", x.at(1, 0, 0, 0), NONE);
        due("at(-2, 0, 0, 0)", x.at(-2, 0, 0, 0), NONE);
        due("at(0, 3, 0, 0)", x.at(0, 3, 0, 0), NONE);
        due("at(16, 0, 0, 0)", x.at(16, 0, 0, 0), NONE);
        due("at(0, 0, 4, 0)", x.at(0, 0, 4, 0), BAD);
        due("at(0, 0, -1, 0)", x.at(0, 0, -1, 0), BAD);
        due("at(9, 9, 4, 9)", x.at(9, 9, 4, 9), BAD);
        for (int far : FAR) {
            due("at(" + far + ", 0, 0, 0)", x.at(far, 0, 0, 0), NONE);
            due("at(0, " + far + ", 0, 0)", x.at(0, far, 0, 0), NONE);
            due("at(0, 0, " + far + ", 0)", x.at(0, 0, far, 0), BAD);
            due("at(0, 0, 0, " + far + ")", x.at(0, 0, 0, far), NONE);
        }
    }

    private static void places() {
        promise = "promise 7";
        OneSnip x = of(1);
        due("places()", x.places(), 4);
        x.fold(2, 0, 0, true);
        due("places()", x.places(), 2);
        x.fold(3, 1, 1, true);
        due("places()", x.places(), 1);
        x.cut(3, 1, 0);
        due("places() counts what fell too", x.places(), 1);
        OneSnip y = of(3);
        y.fold(0, 1, 1, true);
        due("places()", y.places(), 24);
    }

    private static void deepest() {
        promise = "promise 8";
        OneSnip x = of(3);
        due("deepest()", x.deepest(), 1);
        x.fold(0, 1, 0, true);
        due("deepest()", x.deepest(), 2);
        x.fold(2, 0, 0, true);
        due("deepest()", x.deepest(), 4);
        x.unfold();
        due("deepest()", x.deepest(), 2);
        due("deepest() of eight folds", full().deepest(), 18);
    }

    private static void reach() {
        promise = "promise 9";
        OneSnip x = of(4);
        int[] flat = {0, 3, 0, 3};
        for (int what = 0; what < 4; what++) {
            due("reach(" + what + ")", x.reach(what), flat[what]);
        }
        x.fold(0, 1, 1, true);
        x.fold(1, 3, 0, true);
        int[] folded = {-2, 0, 3, 5};
        for (int what = 0; what < 4; what++) {
            due("reach(" + what + ")", x.reach(what), folded[what]);
        }
        due("reach(4)", x.reach(4), BAD);
        due("reach(-1)", x.reach(-1), BAD);
        for (int far : FAR) {
            due("reach(" + far + ")", x.reach(far), BAD);
        }
    }

    private static void folds() {
        promise = "promise 10";
        OneSnip x = of(2);
        due("folds()", x.folds(), 0);
        x.fold(0, 1, 1, true);
        x.fold(0, 5, 1, true);
        due("folds()", x.folds(), 1);
        x.fold(1, 1, 1, true);
        due("folds()", x.folds(), 2);
        x.unfold();
        due("folds()", x.folds(), 1);
        due("folds() of full", full().folds(), 8);
    }

    private static void crease() {
        promise = "promise 11";
        for (int turn = 0; turn < 4; turn++) {
            boolean over = turn < 2;
            OneSnip x = of(2);
            x.fold(0, 1, turn % 2, over);
            due("crease made " + turn, x.crease(1, 0), over ? 1 : 2);
            due("from its other side " + turn, x.crease(7, 0), over ? 1 : 2);
            due("flat " + turn, x.crease(1, 1), 0);
            due("no neighbour " + turn, x.crease(0, 0), NONE);
        }
        OneSnip q = quartered();
        due("fronts up, over", q.crease(2, 0), 1);
        due("fronts down, over", q.crease(6, 0), 2);
        OneSnip u = of(2);
        u.fold(0, 1, 1, true);
        u.fold(1, 1, 1, false);
        due("fronts up, under", u.crease(2, 0), 2);
        due("fronts down, under", u.crease(12, 0), 1);
        due("it stays, turned over", u.crease(9, 0), 1);
        u.fold(2, 0, 1, true);
        due("slant, fronts up", u.crease(0, 2), 1);
        due("slant, fronts down", u.crease(4, 1), 2);
        due("crease(16, 0)", u.crease(16, 0), UNKNOWN);
        due("crease(-1, 0)", u.crease(-1, 0), UNKNOWN);
        due("crease(16, 3)", u.crease(16, 3), UNKNOWN);
        due("crease(0, 3)", u.crease(0, 3), BAD);
        due("crease(0, -1)", u.crease(0, -1), BAD);
        for (int far : FAR) {
            due("crease(" + far + ", 0)", u.crease(far, 0), UNKNOWN);
            due("crease(0, " + far + ")", u.crease(0, far), BAD);
        }
    }

    private static void neighbour() {
        promise = "promise 12";
        OneSnip x = of(3);
        x.fold(0, 1, 1, true);
        // Cell 1, 1 has leaves 16 .. 19.
        int[][] middle = {{6, 17, 19}, {23, 18, 16}, {28, 19, 17}, {13, 16, 18}};
        for (int quarter = 0; quarter < 4; quarter++) {
            for (int edge = 0; edge < 3; edge++) {
                int got = x.neighbour(16 + quarter, edge);
                due("neighbour(" + (16 + quarter) + ", " + edge + ")", got, middle[quarter][edge]);
            }
        }
        due("neighbour(0, 0)", x.neighbour(0, 0), NONE);
        due("neighbour(3, 0)", x.neighbour(3, 0), NONE);
        due("neighbour(9, 0)", x.neighbour(9, 0), NONE);
        due("neighbour(11, 0)", x.neighbour(11, 0), 5);
        due("neighbour(12, 0)", x.neighbour(12, 0), 2);
        due("neighbour(34, 0)", x.neighbour(34, 0), NONE);
        due("neighbour(36, 0)", x.neighbour(36, 0), UNKNOWN);
        due("neighbour(-1, 0)", x.neighbour(-1, 0), UNKNOWN);
        due("neighbour(36, 3)", x.neighbour(36, 3), UNKNOWN);
        due("neighbour(0, 3)", x.neighbour(0, 3), BAD);
        due("neighbour(0, -1)", x.neighbour(0, -1), BAD);
        for (int far : FAR) {
            due("neighbour(" + far + ", 0)", x.neighbour(far, 0), UNKNOWN);
            due("neighbour(0, " + far + ")", x.neighbour(0, far), BAD);
        }
        OneSnip one = of(1);
        for (int leaf = 0; leaf < 4; leaf++) {
            due("neighbour(" + leaf + ", 0) of 1 by 1", one.neighbour(leaf, 0), NONE);
        }
    }

    private static void creases() {
        promise = "promise 13";
        OneSnip x = of(2);
        due("creases(false)", x.creases(false), 0);
        due("creases(true)", x.creases(true), 0);
        x.fold(0, 1, 1, true);
        due("creases(false)", x.creases(false), 2);
        due("creases(true)", x.creases(true), 0);
        x.fold(1, 1, 1, true);
        due("creases(false)", x.creases(false), 3);
        due("creases(true)", x.creases(true), 1);
        x.fold(2, 0, 0, true);
        due("creases(false)", x.creases(false), 7);
        due("creases(true)", x.creases(true), 5);
        OneSnip y = of(3);
        y.fold(2, 1, 1, false);
        due("creases(true)", y.creases(true), 4);
        due("creases(false)", y.creases(false), 0);
    }

    private static void balance() {
        promise = "promise 14";
        OneSnip x = quartered();
        due("balance(1, 1, false)", x.balance(1, 1, false), -2);
        due("balance(1, 0, false)", x.balance(1, 0, false), -1);
        due("balance(1, 2, false)", x.balance(1, 2, false), -1);
        due("balance(0, 1, false)", x.balance(0, 1, false), -1);
        due("balance(2, 1, false)", x.balance(2, 1, false), 1);
        due("balance(0, 0, false)", x.balance(0, 0, false), 0);
        due("balance(2, 2, false)", x.balance(2, 2, false), 0);
        due("balance(0, 0, true)", x.balance(0, 0, true), 0);
        x.fold(2, 0, 0, true);
        due("balance(0, 0, true)", x.balance(0, 0, true), -2);
        due("balance(1, 0, true)", x.balance(1, 0, true), 2);
        due("balance(1, 1, true)", x.balance(1, 1, true), -2);
        due("balance(0, 1, true)", x.balance(0, 1, true), 2);
        due("balance(2, 2, false)", x.balance(2, 2, false), -1);
        due("balance(0, 2, false)", x.balance(0, 2, false), 1);
        pointsRefused(true);
    }

    private static void degree() {
        promise = "promise 15";
        OneSnip x = quartered();
        due("degree(1, 1, false)", x.degree(1, 1, false), 4);
        due("degree(1, 0, false)", x.degree(1, 0, false), 1);
        due("degree(2, 1, false)", x.degree(2, 1, false), 1);
        due("degree(0, 2, false)", x.degree(0, 2, false), 0);
        due("degree(1, 1, true)", x.degree(1, 1, true), 0);
        x.fold(2, 0, 0, true);
        due("degree(1, 1, false)", x.degree(1, 1, false), 8);
        due("degree(1, 1, true)", x.degree(1, 1, true), 2);
        due("degree(0, 1, true)", x.degree(0, 1, true), 2);
        due("degree(0, 2, false)", x.degree(0, 2, false), 1);
        due("degree(2, 2, false)", x.degree(2, 2, false), 1);
        pointsRefused(false);
    }

    private static void pointsRefused(boolean balance) {
        OneSnip x = of(2);
        int[][] bad = {{-1, 0, 0}, {0, -1, 0}, {3, 0, 0}, {0, 3, 0}, {2, 0, 1}, {0, 2, 1}, {-1, 0, 1}, {0, -1, 1}};
        for (int[] row : bad) {
            boolean half = row[2] == 1;
            int got = balance ? x.balance(row[0], row[1], half) : x.degree(row[0], row[1], half);
            due("at " + row[0] + ", " + row[1] + ", " + half, got, BAD);
        }
        for (int far : FAR) {
            due("at " + far, balance ? x.balance(far, 0, false) : x.degree(far, 0, false), BAD);
            due("at 0, " + far, balance ? x.balance(0, far, true) : x.degree(0, far, true), BAD);
        }
        due("at 2, 2", balance ? x.balance(2, 2, false) : x.degree(2, 2, false), 0);
        due("at the middle of 1, 1", balance ? x.balance(1, 1, true) : x.degree(1, 1, true), 0);
    }

    private static void knife() {
        promise = "promise 16";
        OneSnip x = of(2);
        due("knife(1)", x.knife(1), 144);
        due("knife(144)", x.knife(144), 1);
        due("knife(0)", x.knife(0), BAD);
        due("knife(145)", x.knife(145), BAD);
        for (int far : FAR) {
            due("knife(" + far + ")", x.knife(far), BAD);
        }
        due("knife(2)", x.knife(2), 144);
        x.fold(0, 1, 1, true);
        x.fold(1, 1, 1, true);
        due("too thick", x.cut(2, 0, 0), FULL);
        due("knife(3)", x.knife(3), 2);
        due("too thick still", x.cut(2, 0, 0), FULL);
        due("knife(4)", x.knife(4), 3);
        due("not too thick", x.cut(2, 0, 0), 8);
        due("knife(5)", x.knife(5), 4);
    }

    private static void thickness() {
        promise = "promise 17";
        OneSnip x = of(3);
        x.fold(0, 2, 1, true);
        int[][] want = {{0, 0, 1}, {0, 1, 2}, {0, 2, 2}, {0, 3, 0}, {0, -1, 0}, {1, 0, 2}, {1, 3, 2}, {1, 4, 0},
            {2, -3, 0}, {2, -2, 1}, {2, -1, 2}, {2, 0, 2}, {2, 1, 2}, {2, 2, 0}, {3, 0, 0}, {3, 1, 1}, {3, 2, 2},
            {3, 4, 2}, {3, 5, 0}, {0, -24, 0}, {3, 48, 0}};
        for (int[] row : want) {
            due("thickness(" + row[0] + ", " + row[1] + ")", x.thickness(row[0], row[1]), row[2]);
        }
        linesRefused(x, 0);
        // Of 1 by 1 folded once two places are left: their outer edges lie on two of x = 0, x = 1, y = 0, y = 1.
        int[][] halves = {{2, 0, 0, 2, 2, 0}, {2, 1, 2, 0, 0, 2}, {3, 0, 0, 2, 0, 2}, {3, 1, 2, 0, 2, 0}};
        for (int[] row : halves) {
            OneSnip h = of(1);
            h.fold(row[0], row[0] - 2, row[1], true);
            for (int i = 0; i < 4; i++) {
                due("thickness of one half, line " + i, h.thickness(i / 2, i % 2), row[2 + i]);
            }
        }
        OneSnip d = of(1);
        d.fold(2, 0, 0, true);
        due("thickness(1, 0) of the lower place", d.thickness(1, 0), 2);
        due("thickness(0, 1) of the right place", d.thickness(0, 1), 2);
        due("thickness(0, 0): none is left there", d.thickness(0, 0), 0);
        due("thickness(1, 1): none is left there", d.thickness(1, 1), 0);
        due("thickness(3, 1)", d.thickness(3, 1), 2);
        d.cut(3, 1, 0);
        due("thickness behind the cut", d.thickness(1, 0), 2);
    }

    private static void linesRefused(OneSnip x, int what) {
        int[][] bad = {{-1, 0}, {4, 0}, {0, -25}, {0, 49}, {3, 49}, {2, -25}};
        for (int[] row : bad) {
            due("line " + row[0] + ", " + row[1], ofLine(x, what, row[0], row[1]), BAD);
        }
        for (int far : FAR) {
            due("line " + far + ", 0", ofLine(x, what, far, 0), BAD);
            due("line 0, " + far, ofLine(x, what, 0, far), BAD);
        }
    }

    private static int ofLine(OneSnip x, int what, int sort, int k) {
        switch (what) {
            case 0: return x.thickness(sort, k);
            case 1: return x.would(sort, k, 0);
            case 2: return x.cut(sort, k, 0);
            default: return x.mirror(sort, k);
        }
    }

    private static void would() {
        promise = "promise 18";
        OneSnip x = of(3);
        int[][] flat = {{0, 1, 0, 12}, {0, 1, 1, 24}, {1, 2, 0, 24}, {2, 0, 0, 18}, {2, 1, 1, 8}, {2, 2, 1, 2},
            {2, 3, 1, 0}, {2, -2, 0, 2}, {3, 1, 0, 2}, {3, 3, 1, 18}, {3, 6, 0, 36}, {0, -24, 1, 36}, {0, 48, 0, 36}};
        for (int[] row : flat) {
            due("would(" + row[0] + ", " + row[1] + ", " + row[2] + ")", x.would(row[0], row[1], row[2]), row[3]);
        }
        x.fold(0, 2, 1, true);
        due("would(0, 1, 1)", x.would(0, 1, 1), 24);
        due("would(3, 4, 1)", x.would(3, 4, 1), 4);
        due("would(0, 1, 2)", x.would(0, 1, 2), BAD);
        due("would(0, 1, -1)", x.would(0, 1, -1), BAD);
        linesRefused(x, 1);
        due("nothing fell", x.count(1), 0);
        due("cut", x.cut(0, 1, 1), 24);
        due("would behind the cut", x.would(0, 1, 1), 24);
    }

    private static void cut() {
        promise = "promise 19";
        OneSnip x = quartered();
        linesRefused(x, 2);
        due("cut(3, 1, 2)", x.cut(3, 1, 2), BAD);
        due("cut(3, 1, -1)", x.cut(3, 1, -1), BAD);
        x.knife(3);
        due("cut(3, 1, 1)", x.cut(3, 1, 1), FULL);
        due("nothing fell", x.count(1), 0);
        due("take()", x.take(), STATE);
        due("folding goes on", x.fold(2, 0, 0, true), 2);
        x.unfold();
        x.knife(4);
        due("cut(3, 1, 1)", x.cut(3, 1, 1), 8);
        int[] fell = {1, 2, 6, 7, 8, 9, 12, 15};
        int sum = 0;
        for (int leaf : fell) {
            sum += x.facet(leaf, 6);
        }
        due("which fell", sum, 8);
        due("cut once more", x.cut(3, 1, 1), STATE);
        due("bad cut once more", x.cut(3, 1, 2), BAD);
        x.knife(1);
        due("state ahead of full", x.cut(3, 1, 1), STATE);
        OneSnip y = of(2);
        y.knife(1);
        due("nothing falls", y.cut(0, 0, 0), 0);
        due("but it is cut", y.cut(0, 1, 0), STATE);
        due("take()", y.take(), 0);
        OneSnip z = of(2);
        due("all falls", z.cut(0, -24, 1), 16);
        OneSnip k = of(2);
        k.fold(0, 1, 1, true);
        k.knife(1);
        due("no place has an edge on it", k.cut(0, 2, 0), 16);
    }

    private static void pieces() {
        promise = "promise 20";
        OneSnip x = quartered();
        due("pieces(false) ahead of the cut", x.pieces(false), 0);
        due("pieces(true) ahead of the cut", x.pieces(true), 1);
        x.cut(3, 1, 1);
        due("pieces(false)", x.pieces(false), 1);
        due("pieces(true)", x.pieces(true), 4);
        OneSnip y = quartered();
        y.cut(3, 1, 0);
        due("pieces(false)", y.pieces(false), 4);
        due("pieces(true)", y.pieces(true), 1);
        OneSnip z = of(2);
        z.cut(0, 2, 0);
        due("all fell: pieces(false)", z.pieces(false), 1);
        due("all fell: pieces(true)", z.pieces(true), 0);
        OneSnip s = star();
        due("pieces(false)", s.pieces(false), 5);
        due("pieces(true)", s.pieces(true), 1);
    }

    /** 4 by 4, quartered, the middle upon the corners, and those cut off: four corners fall, and a hole. */
    private static OneSnip star() {
        OneSnip x = of(4);
        x.fold(0, 2, 1, true);
        x.fold(1, 2, 1, true);
        x.fold(3, 2, 1, true);
        due("the corners and the middle fall", x.cut(3, 1, 0), 16);
        return x;
    }

    private static void holes() {
        promise = "promise 21";
        due("holes() ahead of the cut", quartered().holes(), 0);
        due("holes() of the star", star().holes(), 1);
        OneSnip x = quartered();
        x.cut(3, 1, 1);
        due("what touches the sheet's edge in points alone is a hole", x.holes(), 1);
        OneSnip y = quartered();
        y.cut(3, 1, 0);
        due("corners are none", y.holes(), 0);
        OneSnip z = of(4);
        z.fold(0, 2, 1, true);
        z.cut(0, 1, 1);
        due("a band is none", z.holes(), 0);
        due("pieces(true)", z.pieces(true), 2);
        OneSnip t = of(6);
        t.fold(0, 3, 1, true);
        t.fold(1, 3, 1, true);
        t.fold(0, 2, 1, true);
        t.fold(1, 2, 1, true);
        due("four diamonds of 8", t.cut(3, 3, 1), 32);
        due("four holes", t.holes(), 4);
        due("pieces(false)", t.pieces(false), 4);
        due("pieces(true)", t.pieces(true), 2);
    }

    private static void rims() {
        promise = "promise 22";
        OneSnip x = quartered();
        due("rims(false) ahead of the cut", x.rims(false), 0);
        due("rims(true) ahead of the cut", x.rims(true), 0);
        x.cut(3, 1, 1);
        due("rims(true)", x.rims(true), 8);
        due("rims(false)", x.rims(false), 0);
        OneSnip z = of(4);
        z.fold(0, 2, 1, true);
        z.cut(0, 1, 1);
        due("rims(true)", z.rims(true), 0);
        due("rims(false)", z.rims(false), 8);
        OneSnip s = star();
        s.unfold();
        due("rims(true)", s.rims(true), 16);
        due("rims(false)", s.rims(false), 0);
        OneSnip all = of(2);
        all.cut(0, 2, 0);
        due("all fell", all.rims(false) + all.rims(true), 0);
        OneSnip square = squareHole();
        due("rims(false)", square.rims(false), 4);
        due("rims(true)", square.rims(true), 0);
        due("holes()", square.holes(), 1);
    }

    /** 3 by 3, both diagonals, then the middle cell's quarter is alone on one side of x = 2. */
    private static OneSnip squareHole() {
        OneSnip x = of(3);
        x.fold(2, 0, 0, true);
        x.fold(3, 3, 0, true);
        due("the middle cell falls", x.cut(0, 2, 0), 4);
        return x;
    }

    private static void piece() {
        promise = "promise 23";
        OneSnip x = quartered();
        due("piece(15) ahead of the cut", x.piece(15), 0);
        x.cut(3, 1, 1);
        int[] want = {0, 1, 1, 0, 4, 4, 1, 1, 1, 1, 10, 10, 1, 13, 13, 1};
        for (int leaf = 0; leaf < 16; leaf++) {
            due("piece(" + leaf + ")", x.piece(leaf), want[leaf]);
        }
        due("piece(16)", x.piece(16), UNKNOWN);
        due("piece(-1)", x.piece(-1), UNKNOWN);
        for (int far : FAR) {
            due("piece(" + far + ")", x.piece(far), UNKNOWN);
        }
    }

    private static void mark() {
        promise = "promise 24";
        OneSnip x = of(2);
        due("mark(3, true)", x.mark(3, true), 0);
        due("mark(3, true)", x.mark(3, true), 1);
        due("count(2)", x.count(2), 1);
        due("mark(15, true)", x.mark(15, true), 0);
        due("count(2)", x.count(2), 2);
        due("mark(3, false)", x.mark(3, false), 1);
        due("mark(3, false)", x.mark(3, false), 0);
        due("count(2)", x.count(2), 1);
        due("facet(15, 7)", x.facet(15, 7), 1);
        due("facet(3, 7)", x.facet(3, 7), 0);
        due("mark(16, true)", x.mark(16, true), UNKNOWN);
        due("mark(-1, true)", x.mark(-1, true), UNKNOWN);
        for (int far : FAR) {
            due("mark(" + far + ", true)", x.mark(far, true), UNKNOWN);
        }
        due("count(2)", x.count(2), 1);
        x.fold(0, 1, 1, true);
        due("mark of a folded leaf is the leaf's", x.mark(4, true), 0);
        due("facet(0, 7)", x.facet(0, 7), 0);
        due("facet(4, 7)", x.facet(4, 7), 1);
    }

    private static void markCell() {
        promise = "promise 25";
        OneSnip x = of(3);
        due("markCell(2, 1, true)", x.markCell(2, 1, true), 4);
        for (int leaf = 0; leaf < 36; leaf++) {
            due("facet(" + leaf + ", 7)", x.facet(leaf, 7), leaf / 4 == 5 ? 1 : 0);
        }
        due("markCell(2, 1, true)", x.markCell(2, 1, true), 4);
        x.mark(0, true);
        due("markCell(0, 0, true)", x.markCell(0, 0, true), 8);
        x.mark(20, false);
        due("markCell(2, 1, false)", x.markCell(2, 1, false), 4);
        due("markCell(2, 2, false)", x.markCell(2, 2, false), 4);
        int[][] bad = {{3, 0}, {0, 3}, {-1, 0}, {0, -1}, {3, 3}};
        for (int[] row : bad) {
            due("markCell(" + row[0] + ", " + row[1] + ")", x.markCell(row[0], row[1], true), BAD);
        }
        for (int far : FAR) {
            due("markCell(" + far + ", 0)", x.markCell(far, 0, true), BAD);
            due("markCell(0, " + far + ")", x.markCell(0, far, true), BAD);
        }
        due("count(2)", x.count(2), 4);
    }

    private static void take() {
        promise = "promise 26";
        OneSnip x = quartered();
        x.mark(0, true);
        x.mark(1, true);
        due("take() ahead of the cut", x.take(), STATE);
        due("count(2)", x.count(2), 2);
        x.cut(3, 1, 1);
        due("take()", x.take(), 8);
        due("facet(0, 7)", x.facet(0, 7), 0);
        due("facet(1, 7)", x.facet(1, 7), 1);
        due("facet(15, 7)", x.facet(15, 7), 1);
        due("count(2)", x.count(2), 8);
        x.unfold();
        x.mark(15, false);
        due("take() once more", x.take(), 8);
        OneSnip y = of(2);
        y.mark(3, true);
        y.cut(0, 0, 0);
        due("take() of nothing", y.take(), 0);
        due("count(2)", y.count(2), 0);
    }

    private static void same() {
        promise = "promise 27";
        OneSnip x = of(2);
        due("same(): nothing fell, no figure", x.same(), 1);
        x.mark(15, true);
        due("same()", x.same(), 0);
        x.cut(0, 1, 1);
        due("same()", x.same(), 0);
        x.markCell(1, 0, true);
        due("same()", x.same(), 0);
        x.markCell(1, 1, true);
        due("same()", x.same(), 1);
        x.mark(15, false);
        due("same()", x.same(), 0);
        x.take();
        due("same()", x.same(), 1);
        x.mark(0, true);
        due("same()", x.same(), 0);
    }

    private static void mirror() {
        promise = "promise 28";
        OneSnip x = of(2);
        due("mirror(0, 1) of none", x.mirror(0, 1), 1);
        due("mirror(0, 0) of none", x.mirror(0, 0), 0);
        due("mirror(3, 2) of none", x.mirror(3, 2), 1);
        x.mark(0, true);
        due("mirror(0, 1)", x.mirror(0, 1), 0);
        x.mark(4, true);
        due("mirror(0, 1)", x.mirror(0, 1), 1);
        due("mirror(1, 1)", x.mirror(1, 1), 0);
        x.mark(3, true);
        x.mark(11, true);
        x.mark(4, false);
        x.mark(8, false);
        x.mark(11, false);
        due("mirror(2, 0)", x.mirror(2, 0), 1);
        due("mirror(3, 2)", x.mirror(3, 2), 0);
        x.mark(13, true);
        x.mark(14, true);
        due("mirror(3, 2)", x.mirror(3, 2), 1);
        x.fold(0, 1, 1, true);
        due("mirror(2, 0) of the figure, folded", x.mirror(2, 0), 1);
        linesRefused(x, 3);
        OneSnip odd = of(3);
        due("mirror(0, 1) of 3 by 3", odd.mirror(0, 1), 0);
        due("mirror(0, 2) of 3 by 3", odd.mirror(0, 2), 0);
        due("mirror(2, 0) of 3 by 3", odd.mirror(2, 0), 1);
        due("mirror(3, 3) of 3 by 3", odd.mirror(3, 3), 1);
        due("mirror(2, 1) of 3 by 3", odd.mirror(2, 1), 0);
        due("mirror(3, 48)", odd.mirror(3, 48), 0);
        due("mirror(2, -24)", odd.mirror(2, -24), 0);
    }

    private static void mirrors() {
        promise = "promise 29";
        OneSnip x = of(6);
        due("mirrors() of none", x.mirrors(), 4);
        x.markCell(0, 0, true);
        due("mirrors()", x.mirrors(), 1);
        x.markCell(5, 5, true);
        due("mirrors()", x.mirrors(), 2);
        x.markCell(5, 0, true);
        x.markCell(0, 5, true);
        due("mirrors()", x.mirrors(), 4);
        x.mark(1, false);
        due("mirrors()", x.mirrors(), 0);
        due("mirrors() of 5 by 5", of(5).mirrors(), 2);
        due("mirrors() of 1 by 1", of(1).mirrors(), 2);
        due("mirrors() of the star", taken(star()).mirrors(), 4);
    }

    private static OneSnip taken(OneSnip x) {
        x.take();
        return x;
    }

    private static void fewest() {
        promise = "promise 30";
        OneSnip x = of(1);
        due("fewest(0) of none", x.fewest(0), 0);
        x.mark(0, true);
        for (int f = 0; f <= 3; f++) {
            due("one leaf of 1 by 1: fewest(" + f + ")", x.fewest(f), NONE);
        }
        for (int leaf = 1; leaf < 4; leaf++) {
            OneSnip one = of(1);
            one.mark(leaf, true);
            due("leaf " + leaf + " alone: fewest(3)", one.fewest(3), NONE);
            one.markCell(0, 0, true);
            one.mark(leaf, false);
            due("all but leaf " + leaf + ": fewest(3)", one.fewest(3), NONE);
        }
        x.mark(1, true);
        due("two leaves: fewest(3)", x.fewest(3), 0);
        x.mark(1, false);
        x.mark(2, true);
        due("two opposite leaves: fewest(3)", x.fewest(3), NONE);
        OneSnip c = corners(of(2));
        due("four corners: fewest(0)", c.fewest(0), NONE);
        due("four corners: fewest(1)", c.fewest(1), NONE);
        due("four corners: fewest(2)", c.fewest(2), 2);
        due("four corners: fewest(3)", c.fewest(3), 2);
        due("four corners: fewest(1) once more", c.fewest(1), NONE);
        c.mark(4, false);
        due("spoilt: fewest(2)", c.fewest(2), NONE);
        c.mark(4, true);
        due("mended: fewest(2)", c.fewest(2), 2);
        OneSnip s = taken(star());
        due("the star: fewest(2)", s.fewest(2), NONE);
        due("the star: fewest(3)", s.fewest(3), 3);
        s.knife(1);
        due("whatever the knife cuts: fewest(3)", s.fewest(3), 3);
        lengthsRefused(s, 0);
    }

    private static OneSnip corners(OneSnip x) {
        for (int leaf : new int[] {0, 3, 4, 5, 10, 11, 13, 14}) {
            x.mark(leaf, true);
        }
        return x;
    }

    private static void lengthsRefused(OneSnip x, int what) {
        for (int f : new int[] {-1, 4, Integer.MIN_VALUE, Integer.MAX_VALUE}) {
            int got = what == 0 ? x.fewest(f) : what == 1 ? x.way(f, 0) : x.ways(f);
            due("with f = " + f, got, BAD);
        }
    }

    private static void way() {
        promise = "promise 31";
        OneSnip x = of(1);
        due("way(0, 0) of none", x.way(0, 0), -1400);
        due("way(0, 1) of none", x.way(0, 1), NONE);
        x.mark(0, true);
        due("way(3, 0)", x.way(3, 0), NONE);
        x.mark(1, true);
        due("way(3, 0): a cut alone", x.way(3, 0), 1021);
        due("way(3, 1)", x.way(3, 1), NONE);
        x.markCell(0, 0, true);
        due("way(3, 0): all falls", x.way(3, 0), -1399);
        OneSnip c = corners(of(2));
        // Left upon right, lower upon upper: the corners lie upper right, beyond x + y = 3.
        int[] want = {1100, 1110, 1331};
        for (int i = 0; i < 3; i++) {
            due("four corners: way(3, " + i + ")", c.way(3, i), want[i]);
            due("four corners: way(1, " + i + ")", c.way(1, i), NONE);
        }
        due("four corners: way(3, 3)", c.way(3, 3), NONE);
        due("four corners: way(3, -1)", c.way(3, -1), NONE);
        due("four corners: way(3, MAX)", c.way(3, Integer.MAX_VALUE), NONE);
        due("four corners: way(3, MIN)", c.way(3, Integer.MIN_VALUE), NONE);
        c.fold(0, 1, 1, true);
        c.fold(3, 1, 0, false);
        due("from the sheet as it is at first", c.way(3, 2), 1331);
        int[] star = {1200, 1210, 1630, 1731};
        OneSnip s = taken(star());
        for (int i = 0; i < 4; i++) {
            due("the star: way(3, " + i + ")", s.way(3, i), star[i]);
        }
        due("the star: way(3, 4)", s.way(3, 4), NONE);
        OneSnip again = of(4);
        again.fold(0, 2, 0, true);
        again.fold(1, 2, 0, true);
        again.fold(3, 6, 0, true);
        again.cut(3, 7, 1);
        again.take();
        for (int leaf = 0; leaf < 64; leaf++) {
            due("what the way cuts out, " + leaf, again.facet(leaf, 7), s.facet(leaf, 7));
        }
        OneSnip m = of(3);
        m.markCell(1, 1, true);
        int[] middle = {1020, 1330, 1200};
        for (int i = 0; i < 3; i++) {
            due("the middle cell: way(2, " + i + ")", m.way(2, i), middle[i]);
        }
        lengthsRefused(s, 1);
    }

    private static void ways() {
        promise = "promise 32";
        OneSnip x = of(1);
        // Nothing falls: 25 lines or 48 each of sorts 0 and 1, 24 and 48 of sort 2, 25 and 47 of sort 3.
        due("ways(0) of none", x.ways(0), 290);
        due("ways(3) of none", x.ways(3), 290);
        x.mark(0, true);
        due("ways(3) where there is none", x.ways(3), 0);
        x.mark(1, true);
        due("ways(3)", x.ways(3), 1);
        x.markCell(0, 0, true);
        due("ways(0) of all", x.ways(0), 290);
        OneSnip c = corners(of(2));
        due("four corners: ways(1)", c.ways(1), 0);
        // Both folds in either order, each to either side.
        due("four corners: ways(2)", c.ways(2), 8);
        due("four corners: ways(3)", c.ways(3), 8);
        due("the star: ways(3)", taken(star()).ways(3), 16);
        OneSnip h = of(2);
        h.markCell(1, 0, true);
        h.markCell(1, 1, true);
        due("the right half: ways(3)", h.ways(3), 1);
        OneSnip m = of(4);
        for (int y = 0; y < 4; y++) {
            m.markCell(1, y, true);
            m.markCell(2, y, true);
        }
        // Folded in the middle, to either side, there is one line; no other fold leaves the band alone.
        due("a band: ways(3)", m.ways(3), 2);
        due("a band: way(3, 0)", m.way(3, 0), 1200);
        due("a band: way(3, 1)", m.way(3, 1), 1300);
        lengthsRefused(x, 2);
    }

    private static void spent() {
        for (int number = 30; number <= 32; number++) {
            promise = "promise " + number;
            OneSnip x = of(5);
            for (int leaf : new int[] {48, 68, 5}) {
                x.mark(leaf, true);
            }
            due("3000 rows of 1, 2 and 3 folds, and no way", ofSearch(x, number, 3), number == 32 ? 0 : NONE);
            OneSnip y = of(5);
            for (int leaf : new int[] {64, 35, 16}) {
                y.mark(leaf, true);
            }
            due("3004 rows", ofSearch(y, number, 3), SPENT);
            due("not so many of 1 and 2 folds", ofSearch(y, number, 2), number == 32 ? 0 : NONE);
            due("3004 rows", ofSearch(y, number, 3), SPENT);
            due("bad is told first", ofSearch(y, number, 4), BAD);
            y.markCell(0, 0, false);
            y.mark(64, false);
            y.mark(35, false);
            y.mark(16, false);
            due("another figure", ofSearch(y, number, 3), number == 30 ? 0 : number == 31 ? -1400 : 266);
        }
        promise = "promise 31";
        OneSnip z = of(5);
        for (int leaf : new int[] {64, 35, 16}) {
            z.mark(leaf, true);
        }
        due("way(3, 9)", z.way(3, 9), SPENT);
        promise = "promise 30";
        OneSnip two = of(6);
        two.mark(0, true);
        two.mark(143, true);
        due("not so many of 2 folds", two.fewest(2), NONE);
        due("too many of 3 folds", two.fewest(3), SPENT);
        OneSnip band = of(6);
        for (int y = 0; y < 6; y++) {
            band.markCell(2, y, true);
            band.markCell(3, y, true);
        }
        due("longer rows than the fewest are not counted", band.fewest(3), 1);
        OneSnip small = of(6);
        small.fold(3, 8, 0, true);
        small.fold(0, 6, 0, true);
        small.fold(2, 2, 0, true);
        due("cut(2, 5, 1)", small.cut(2, 5, 1), 6);
        small.take();
        due("fewest(2)", small.fewest(2), NONE);
        due("too many, though there is a way", small.fewest(3), SPENT);
        due("too many, though there is a way", small.ways(3), SPENT);
        due("too many, though there is a way", small.way(3, 0), SPENT);
    }

    private static int ofSearch(OneSnip x, int number, int f) {
        return number == 30 ? x.fewest(f) : number == 31 ? x.way(f, 0) : x.ways(f);
    }

    private static void count() {
        promise = "promise 33";
        OneSnip x = of(3);
        int[] flat = {36, 0, 0, 0, 3};
        for (int what = 0; what < 5; what++) {
            due("count(" + what + ")", x.count(what), flat[what]);
        }
        x.fold(0, 2, 1, true);
        x.fold(1, 1, 0, false);
        x.mark(3, true);
        x.mark(4, true);
        x.cut(0, 1, 0);
        // Down: the right column but for its lowest cell, and the lowest row's two others.
        int[] behind = {36, 12, 2, 16, 3};
        for (int what = 0; what < 5; what++) {
            due("count(" + what + ")", x.count(what), behind[what]);
        }
        due("count(5)", x.count(5), BAD);
        due("count(-1)", x.count(-1), BAD);
        for (int far : FAR) {
            due("count(" + far + ")", x.count(far), BAD);
        }
    }

    private static void constants() {
        promise = "the public face";
        due("UNKNOWN", OneSnip.UNKNOWN, UNKNOWN);
        due("BAD", OneSnip.BAD, BAD);
        due("STATE", OneSnip.STATE, STATE);
        due("FULL", OneSnip.FULL, FULL);
        due("SPENT", OneSnip.SPENT, SPENT);
        due("NONE", OneSnip.NONE, NONE);
    }

    private static void readme() {
        promise = "the run in README.md";
        OneSnip x = new OneSnip();
        due("sheet(2)", x.sheet(2), 4);
        due("fold(0, 1, 1, true)", x.fold(0, 1, 1, true), 8);
        due("cut(3, 1, 0)", x.cut(3, 1, 0), 4);
        due("pieces(false)", x.pieces(false), 2);
        due("take()", x.take(), 4);
        due("fewest(3)", x.fewest(3), 1);
        due("way(3, 0)", x.way(3, 0), 1100);
    }
}
