/** Promises 24 to 28: rows, may, likeliest, kept, week. */
public final class TotalsTest {
    public static void main(String[] args) {
        rows();
        mays();
        likeliestRows();
        keptOnes();
        totalsRefused();
        weeks();
        weekByHand();
        Due.end();
    }

    private static void rows() {
        DreamShares x = Due.with("1111;1111;1111;1111;1111;1111", "");
        Due.same("six, all ways", x.rows(2, 2, 1, 1), 180);
        Due.same("six alike", x.rows(0, 6, 0, 0), 1);
        Due.same("too few", x.rows(2, 2, 1, 0), 0);
        Due.same("too many", x.rows(6, 6, 6, 6), 0);
        DreamShares y = Due.with("1100;0110", "");
        Due.same("f w", y.rows(1, 1, 0, 0), 1);
        Due.same("w w", y.rows(0, 2, 0, 0), 1);
        Due.same("w g", y.rows(0, 1, 1, 0), 1);
        Due.same("f f", y.rows(2, 0, 0, 0), 0);
        y.supper(1, 0);
        Due.same("f f by supper", y.rows(2, 0, 0, 0), 1);
        Due.same("f w by supper", y.rows(1, 1, 0, 0), 2);
        y.set(0, 0);
        Due.same("f f without spice", y.rows(2, 0, 0, 0), 0);
        Due.same("nobody, nothing", new DreamShares().rows(0, 0, 0, 0), 1);
        Due.same("nobody, something", new DreamShares().rows(0, 0, 0, 1), 0);
    }

    private static void mays() {
        DreamShares x = Due.with("1100;0110;0011", "");
        Due.same("f w g: 0", x.may(1, 1, 1, 0, 0), 1);
        Due.same("f w g: 1", x.may(1, 1, 1, 0, 1), 2);
        Due.same("w g g: 0", x.may(0, 1, 2, 0, 0), 2);
        Due.same("w g n: 1", x.may(0, 1, 1, 1, 1), 4);
        Due.same("w w g: 2", x.may(0, 2, 1, 0, 2), 4);
        Due.same("none", x.may(3, 0, 0, 0, 0), 0);
        Due.same("too few", x.may(1, 0, 0, 0, 0), 0);
        Due.same("too many", x.may(6, 6, 6, 6, 2), 0);
        x.supper(0, 2);
        Due.same("w w g: 2 by supper", x.may(0, 2, 1, 0, 2), 4);
        Due.same("w g g: 0 by supper", x.may(0, 1, 2, 0, 0), 6);
        DreamShares all = Due.with("1111;1111;1111;1111", "");
        Due.same("all may be", all.may(1, 1, 1, 1, 3), 15);
    }

    private static void likeliest(DreamShares x, int[] pool, int... kinds) {
        for (int m = 0; m < kinds.length; m++) {
            Due.same("likeliest of " + m, x.likeliest(pool[0], pool[1], pool[2], pool[3], m), kinds[m]);
        }
    }

    private static void likeliestRows() {
        DreamShares x = Due.with("1111;1111;1111;1111", "");
        likeliest(x, new int[] {1, 1, 1, 1}, 0, 1, 2, 3);
        likeliest(x, new int[] {0, 2, 0, 2}, 1, 1, 3, 3);
        DreamShares y = Due.with("2100;5100", "");
        // f w 2, w f 5
        likeliest(y, new int[] {1, 1, 0, 0}, 1, 0);
        likeliest(y, new int[] {0, 1, 1, 0}, -1, -1);
        likeliest(y, new int[] {2, 1, 0, 0}, -1, -1);
        likeliest(y, new int[] {6, 6, 6, 6}, -1, -1);
        y.supper(0, 0);
        // f w 5, w f 5
        likeliest(y, new int[] {1, 1, 0, 0}, 0, 1);
        y.set(0, 2);
        // f w 4, w f 5
        likeliest(y, new int[] {1, 1, 0, 0}, 1, 0);
        DreamShares z = Due.with("3200;2300;6600", "");
        // f f w 36, f w f 54, w f f 24
        likeliest(z, new int[] {2, 1, 0, 0}, 0, 1, 0);
    }

    private static void keptOnes() {
        DreamShares x = Due.with("1111;1111;1111", "");
        Due.same("nothing noted", x.kept(0, 0, 0, 0), 0);
        x.dreamt(0, 0);
        x.dreamt(2, 0);
        x.dreamt(4, 1);
        Due.same("one of two", x.kept(1, 0, 0, 0), 5);
        Due.same("none is missing", x.kept(2, 0, 0, 0), 0);
        Due.same("two are missing", x.kept(0, 0, 0, 0), 0);
        Due.same("one that is not there", x.kept(2, 1, 0, 0), 0);
        x.dreamt(1, 3);
        Due.same("the nightmare", x.kept(2, 0, 0, 0), 2);
        Due.same("one of f", x.kept(1, 0, 0, 1), 5);
        Due.same("more than noted", x.kept(6, 6, 6, 6), 0);
        Due.same("one more and one less", x.kept(1, 1, 0, 1), 0);
        Due.type(x, 0, ";1000;1000");
        Due.same("the fifth is there now", x.kept(2, 0, 0, 1), 16);
        Due.same("nobody", new DreamShares().kept(0, 0, 0, 0), 0);
    }

    private static void totalsRefused() {
        DreamShares x = Due.with("1000", "");
        int[][] pools = {{-1, 0, 0, 0}, {0, -1, 0, 0}, {0, 0, -1, 0}, {0, 0, 0, -1}, {7, 0, 0, 0}, {0, 7, 0, 0},
            {0, 0, 7, 0}, {0, 0, 0, 7}, {Integer.MIN_VALUE, 0, 0, 0}, {0, 0, 0, Integer.MAX_VALUE}};
        for (int[] p : pools) {
            Due.same("rows refused", x.rows(p[0], p[1], p[2], p[3]), -2);
            Due.same("may refused", x.may(p[0], p[1], p[2], p[3], 0), -2);
            Due.same("likeliest refused", x.likeliest(p[0], p[1], p[2], p[3], 0), -2);
            Due.same("kept refused", x.kept(p[0], p[1], p[2], p[3]), -2);
        }
        for (int member : new int[] {-1, 1, 6}) {
            Due.same("may of nobody", x.may(1, 0, 0, 0, member), -2);
            Due.same("likeliest of nobody", x.likeliest(1, 0, 0, 0, member), -2);
        }
    }

    private static void weeks() {
        DreamShares x = Due.with("1000;0001", "f5");
        Due.same("3 a night", x.week(-5, 60, 0), 180);
        Due.same("no loss", x.week(-5, 60, 1), -1);
        x.set(1, 6);
        Due.same("-1 a night", x.week(9, 7, 0), -7);
        Due.same("the first", x.week(9, 7, 1), 0);
        x.set(1, 5);
        Due.same("0 is no loss", x.week(9, 7, 1), -1);
        Due.same("nobody", new DreamShares().week(1, 60, 0), 0);
        int[][] asked = {{1, 0, 0}, {1, 61, 0}, {1, -1, 1}, {1, 1, 2}, {1, 1, -1}, {1, Integer.MAX_VALUE, 0}};
        for (int[] a : asked) {
            Due.same("week refused", x.week(a[0], a[1], a[2]), -10002);
        }
    }

    /** From seed 0 on: 12345 has the upper bits 0, the next seed, -740551042, has 54236. */
    private static void weekByHand() {
        DreamShares x = Due.with("1111;1111", "f1;w3;g5");
        // both lots are 0 of 4: f, f
        Due.same("seed 0", x.week(0, 1, 0), 2);
        // the second lot is 54236 % (4 + spice), the first dream f
        byDish(x, 2, 2, 2, 4, 6, 6);
        byDish(x, 4, 4, 2, 4, 6, -1);
        byDish(x, 6, 6, 2, 4, 6, -1);
        byDish(x, 7, 6, 2, 4, 6, -1);
        byDish(x, 5, 2, 2, 4, 6, 6);
    }

    private static void byDish(DreamShares x, int spice, int lot, int... worths) {
        Due.same("the lot", 54236 % (4 + spice), lot);
        x.set(0, spice);
        for (int dish = 0; dish < 4; dish++) {
            x.supper(1, dish);
            Due.same("spice " + spice + ", dish " + dish, x.week(0, 1, 0), worths[dish]);
            Due.same("its loss", x.week(0, 1, 1), worths[dish] < 0 ? 0 : -1);
        }
        x.supper(1, DreamShares.NONE);
    }
}
