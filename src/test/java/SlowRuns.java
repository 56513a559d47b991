import java.util.Random;

/**
 * Runs of calls in no order, on OneSnip and on SlowSnip: they are to answer alike. Always the same runs, and none of
 * more than 512 calls.
 */
public final class SlowRuns {
    private static final int CALLS = 33;
    private static int wrong = 0;

    private final Random random;
    private final OneSnip quick = new OneSnip();
    private final SlowSnip slow = new SlowSnip();
    private final StringBuilder told = new StringBuilder();
    private int n = 4;
    private boolean searched;

    private SlowRuns(long seed) {
        random = new Random(seed);
    }

    public static void main(String[] args) {
        int runs = args.length > 0 ? Integer.parseInt(args[0]) : 240;
        long from = args.length > 1 ? Long.parseLong(args[1]) : 1;
        for (long seed = from; seed < from + runs && wrong < 5; seed++) {
            SlowRuns run = new SlowRuns(seed);
            if (seed % 3 == 0) {
                run.folding();
            } else if (seed % 3 == 1) {
                run.anything();
            } else {
                run.cuttingOut();
            }
        }
        if (wrong != 0) {
            System.exit(1);
        }
    }

    private int below(int bound) {
        return random.nextInt(bound);
    }

    private boolean coin() {
        return random.nextBoolean();
    }

    /** Mostly from..to, sometimes just beside it, sometimes far off. */
    private int near(int from, int to) {
        int dice = below(40);
        if (dice == 0) {
            return from - 1;
        }
        if (dice == 1) {
            return to + 1;
        }
        if (dice == 2) {
            int[] far = {Integer.MIN_VALUE, Integer.MAX_VALUE, -1000000, 1 << 30, -24, 48, 144, -5};
            return far[below(far.length)];
        }
        return from + below(to - from + 1);
    }

    private int line() {
        return below(4) == 0 ? near(-24, 48) : near(-2, 2 * n);
    }

    private int leaf() {
        return near(0, 4 * n * n - 1);
    }

    private void resize(int size) {
        compare("sheet", size, 0, 0, 0, false);
        n = quick.count(4);
    }

    private void anything() {
        resize(1 + below(6));
        for (int i = 0; i < 300; i++) {
            step(below(CALLS));
        }
    }

    /** Many folds, so that there are eight, and all that tells of them behind each. */
    private void folding() {
        resize(1 + below(6));
        for (int i = 0; i < 12; i++) {
            int sort = below(4);
            boolean over = coin();
            for (int attempt = 0; attempt < 6; attempt++) {
                compare("fold", sort, line(), below(2), 0, over);
                sort = below(4);
            }
            if (below(3) == 0) {
                compare("unfold", 0, 0, 0, 0, false);
            }
            look();
        }
    }

    private void look() {
        for (int what : new int[] {5, 6, 7, 8, 9, 9, 10, 13, 13, 14, 15, 17, 18}) {
            step(what);
        }
        int leaf = below(4 * n * n);
        for (int what = 0; what < 8; what++) {
            compare("facet", leaf, what, 0, 0, false);
        }
        for (int edge = 0; edge < 3; edge++) {
            compare("crease", leaf, edge, 0, 0, false);
        }
        compare("at", quick.facet(leaf, 0), quick.facet(leaf, 1), quick.facet(leaf, 2), below(3), false);
    }

    /** A figure that some folds and a cut make, or some marks, perhaps spoilt a little, and searched for. */
    private void cuttingOut() {
        int size = 1 + below(6);
        resize(size);
        if (below(4) == 0) {
            for (int i = below(4); i >= 0; i--) {
                compare("mark", below(4 * size * size), 0, 0, 0, true);
            }
        } else {
            cutSome(below(4));
        }
        compare("mirrors", 0, 0, 0, 0, false);
        int most = size > 4 ? 2 : 3;
        for (int f = 0; f <= most; f++) {
            searchAll(f);
        }
        if (below(3) == 0) {
            compare("mark", leaf(), 0, 0, 0, coin());
            searchAll(below(most + 1));
        }
        searchAll(most);
        compare("fewest", below(2) * 5 - 1, 0, 0, 0, false);
    }

    private void cutSome(int folds) {
        boolean middle = coin();
        for (int i = 0; i < 60 && quick.folds() < folds; i++) {
            int sort = below(4);
            int half = new int[] {n / 2, n / 2, 0, n}[sort];
            compare("fold", sort, middle ? half : 1 + below(2 * n), below(2), 0, true);
        }
        boolean isCut = false;
        for (int i = 0; i < 60 && !isCut; i++) {
            int sort = below(4);
            int k = below(2 * n);
            int side = below(2);
            int falls = quick.would(sort, k, side);
            if (falls > 0 && falls < 2 * n * n) {
                compare("cut", sort, k, side, 0, false);
                isCut = true;
            }
        }
        for (int i = 0; i < 8; i++) {
            step(20 + below(4));
        }
        compare("take", 0, 0, 0, 0, false);
        compare("same", 0, 0, 0, 0, false);
    }

    private void searchAll(int f) {
        compare("fewest", f, 0, 0, 0, false);
        compare("ways", f, 0, 0, 0, false);
        for (int i = -1; i < 5; i++) {
            compare("way", f, i, 0, 0, false);
        }
    }

    private void step(int number) {
        switch (number) {
            case 2: if (below(8) == 0) { resize(near(1, 6)); } break;
            case 3: compare("fold", near(0, 3), line(), near(0, 1), 0, coin()); break;
            case 4: compare("unfold", 0, 0, 0, 0, false); break;
            case 5: compare("facet", leaf(), near(0, 7), 0, 0, false); break;
            case 6: compare("at", near(-2, n + 1), near(-2, n + 1), near(0, 3), near(0, 4), false); break;
            case 7: compare("places", 0, 0, 0, 0, false); break;
            case 8: compare("deepest", 0, 0, 0, 0, false); break;
            case 9: compare("reach", near(0, 3), 0, 0, 0, false); break;
            case 10: compare("folds", 0, 0, 0, 0, false); break;
            case 11: compare("crease", leaf(), near(0, 2), 0, 0, false); break;
            case 12: compare("neighbour", leaf(), near(0, 2), 0, 0, false); break;
            case 13: compare("creases", 0, 0, 0, 0, coin()); break;
            case 14: compare("balance", near(0, n), near(0, n), 0, 0, coin()); break;
            case 15: compare("degree", near(0, n), near(0, n), 0, 0, coin()); break;
            case 16: compare("knife", near(1, below(2) == 0 ? 4 : 144), 0, 0, 0, false); break;
            case 17: compare("thickness", near(0, 3), line(), 0, 0, false); break;
            case 18: compare("would", near(0, 3), line(), near(0, 1), 0, false); break;
            case 19: if (below(4) == 0) { compare("cut", near(0, 3), line(), near(0, 1), 0, false); } break;
            case 20: compare("pieces", 0, 0, 0, 0, coin()); break;
            case 21: compare("holes", 0, 0, 0, 0, false); break;
            case 22: compare("rims", 0, 0, 0, 0, coin()); break;
            case 23: compare("piece", leaf(), 0, 0, 0, false); break;
            case 24: compare("mark", leaf(), 0, 0, 0, coin()); break;
            case 25: compare("markCell", near(0, n - 1), near(0, n - 1), 0, 0, coin()); break;
            case 26: compare("take", 0, 0, 0, 0, false); break;
            case 27: compare("same", 0, 0, 0, 0, false); break;
            case 28: compare("mirror", near(0, 3), line(), 0, 0, false); break;
            case 29: compare("mirrors", 0, 0, 0, 0, false); break;
            case 30: case 31: case 32: searchSometimes(); break;
            default: compare("count", near(0, 4), 0, 0, 0, false); break;
        }
    }

    /** The slow one takes its time: so once a run, and not for what has to be looked for long. */
    private void searchSometimes() {
        if (!searched && below(10) == 0) {
            searched = true;
            searchAll(near(0, n > 3 ? 2 : 3));
        }
    }

    private void compare(String call, int a, int b, int c, int d, boolean is) {
        told.append(' ').append(call).append('(').append(a).append(", ").append(b).append(", ").append(c)
            .append(", ").append(d).append(", ").append(is).append(')');
        int[] both = answers(call, a, b, c, d, is);
        if (both[0] != both[1] && wrong < 5) {
            wrong++;
            System.out.println("after" + told + ": answered " + both[0] + ", due is " + both[1]);
        }
    }

    private int[] answers(String call, int a, int b, int c, int d, boolean is) {
        switch (call) {
            case "sheet": return new int[] {quick.sheet(a), slow.sheet(a)};
            case "fold": return new int[] {quick.fold(a, b, c, is), slow.fold(a, b, c, is)};
            case "unfold": return new int[] {quick.unfold(), slow.unfold()};
            case "facet": return new int[] {quick.facet(a, b), slow.facet(a, b)};
            case "at": return new int[] {quick.at(a, b, c, d), slow.at(a, b, c, d)};
            case "places": return new int[] {quick.places(), slow.places()};
            case "deepest": return new int[] {quick.deepest(), slow.deepest()};
            case "reach": return new int[] {quick.reach(a), slow.reach(a)};
            case "folds": return new int[] {quick.folds(), slow.folds()};
            case "crease": return new int[] {quick.crease(a, b), slow.crease(a, b)};
            case "neighbour": return new int[] {quick.neighbour(a, b), slow.neighbour(a, b)};
            case "creases": return new int[] {quick.creases(is), slow.creases(is)};
            case "balance": return new int[] {quick.balance(a, b, is), slow.balance(a, b, is)};
            case "degree": return new int[] {quick.degree(a, b, is), slow.degree(a, b, is)};
            case "knife": return new int[] {quick.knife(a), slow.knife(a)};
            case "thickness": return new int[] {quick.thickness(a, b), slow.thickness(a, b)};
            case "would": return new int[] {quick.would(a, b, c), slow.would(a, b, c)};
            case "cut": return new int[] {quick.cut(a, b, c), slow.cut(a, b, c)};
            case "pieces": return new int[] {quick.pieces(is), slow.pieces(is)};
            case "holes": return new int[] {quick.holes(), slow.holes()};
            case "rims": return new int[] {quick.rims(is), slow.rims(is)};
            case "piece": return new int[] {quick.piece(a), slow.piece(a)};
            case "mark": return new int[] {quick.mark(a, is), slow.mark(a, is)};
            case "markCell": return new int[] {quick.markCell(a, b, is), slow.markCell(a, b, is)};
            case "take": return new int[] {quick.take(), slow.take()};
            case "same": return new int[] {quick.same(), slow.same()};
            case "mirror": return new int[] {quick.mirror(a, b), slow.mirror(a, b)};
            case "mirrors": return new int[] {quick.mirrors(), slow.mirrors()};
            case "fewest": return new int[] {quick.fewest(a), slow.fewest(a)};
            case "way": return new int[] {quick.way(a, b), slow.way(a, b)};
            case "ways": return new int[] {quick.ways(a), slow.ways(a)};
            default: return new int[] {quick.count(a), slow.count(a)};
        }
    }
}
