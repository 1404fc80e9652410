/** Promises 13 to 16: chance, worth, made, mean. */
public final class WorthTest {
    public static void main(String[] args) {
        chances();
        chancesRefused();
        worths();
        poolsRefused();
        madeRows();
        means();
        meansRefused();
        greatestNumbers();
        Due.end();
    }

    private static void chance(DreamShares x, int member, int kind, long above, long below) {
        String call = "chance(" + member + ", " + kind + ")";
        Due.fraction(call, x.chance(member, kind, 0), x.chance(member, kind, 1), above, below);
    }

    private static void chances() {
        DreamShares x = Due.with("1234;0900", "");
        chance(x, 0, 0, 1, 10);
        chance(x, 0, 1, 1, 5);
        chance(x, 0, 3, 2, 5);
        chance(x, 1, 0, 0, 1);
        chance(x, 1, 1, 1, 1);
        x.supper(1, 3);
        chance(x, 1, 3, 1, 4);
        chance(x, 1, 1, 3, 4);
        x.set(0, 0);
        chance(x, 1, 3, 0, 1);
        x.set(0, 9);
        chance(x, 1, 3, 1, 2);
        x.supper(0, 0);
        chance(x, 0, 0, 10, 19);
    }

    private static void chancesRefused() {
        DreamShares x = Due.with("1234", "");
        int[][] asked = {{1, 0, 0}, {-1, 0, 0}, {0, 4, 0}, {0, -1, 0}, {0, 0, 2}, {0, 0, -1}};
        for (int[] a : asked) {
            Due.same("chance refused", x.chance(a[0], a[1], a[2]), Due.BAD_LONG);
        }
    }

    private static void worths() {
        DreamShares x = Due.with("", "fw5;ff9;ww9;n1");
        Due.same("two pairs are better", x.worth(2, 2, 0, 0), 18);
        Due.same("one pair each", x.worth(3, 3, 0, 0), 23);
        Due.same("nothing by one", x.worth(1, 0, 5, 0), 0);
        Due.same("nightmares that are made cost, too", x.worth(0, 0, 0, 6), -6);
        Due.same("empty pool", x.worth(0, 0, 0, 0), 0);
        Due.same("LOSS 2", x.set(1, 9), 2);
        Due.same("LOSS 9", x.worth(2, 0, 0, 4), -23);
        x.set(1, 0);
        Due.same("LOSS 0", x.worth(0, 0, 0, 6), 6);
        Due.retype(x, 1, "f9");
        Due.same("the most of all", x.worth(6, 0, 0, 0), 54);
        x.wipe(1);
        x.set(1, 9);
        Due.same("the least of all", x.worth(0, 0, 0, 6), -54);
        Due.retype(x, 1, "gg2");
        Due.same("a kind twice", x.worth(0, 0, 3, 0), 2);
        Due.same("a kind once is not enough", x.worth(0, 0, 1, 0), 0);
    }

    private static void poolsRefused() {
        DreamShares x = Due.with("1000", "f1");
        int[][] asked = {{-1, 0, 0, 0}, {0, -1, 0, 0}, {0, 0, -1, 0}, {0, 0, 0, -1}, {7, 0, 0, 0}, {0, 7, 0, 0},
            {0, 0, 7, 0}, {0, 0, 0, 7}, {6, 1, 0, 0}, {2, 2, 2, 1}, {6, 6, 6, 6}, {-1, 1, 0, 0},
            {Integer.MAX_VALUE, Integer.MAX_VALUE, 1, 1}};
        for (int[] a : asked) {
            Due.same("worth refused", x.worth(a[0], a[1], a[2], a[3]), -10002);
            Due.same("made refused", x.made(a[0], a[1], a[2], a[3], 0), -2);
        }
        Due.same("made of no recipe", x.made(1, 0, 0, 0, 1), -2);
        Due.same("made of no recipe", x.made(1, 0, 0, 0, -1), -2);
    }

    private static void made(String recipes, int[] pool, int... often) {
        DreamShares x = Due.with("", recipes);
        for (int r = 0; r < often.length; r++) {
            String call = "made of recipe " + r + " in " + recipes;
            Due.same(call, x.made(pool[0], pool[1], pool[2], pool[3], r), often[r]);
        }
    }

    private static void madeRows() {
        made("fw4;f2;w2", new int[] {1, 1, 0, 0}, 1, 0, 0);
        made("f2;w2;fw4", new int[] {1, 1, 0, 0}, 1, 1, 0);
        made("ff4;f2", new int[] {3, 0, 0, 0}, 1, 1);
        made("f2;ff4", new int[] {3, 0, 0, 0}, 3, 0);
        made("fw7;wf7", new int[] {2, 2, 0, 0}, 2, 0);
        made("fw7;f5;w4", new int[] {1, 1, 0, 0}, 0, 1, 1);
        made("fw5;ff9;ww9", new int[] {3, 3, 0, 0}, 1, 1, 1);
        made("nn9;g1", new int[] {1, 1, 1, 3}, 1, 1);
        made("f1;f9", new int[] {6, 0, 0, 0}, 0, 6);
        made("f1;f1;f1;f1;f1;f1", new int[] {6, 0, 0, 0}, 6, 0, 0, 0, 0, 0);
        made("gn5;fn5;wn5", new int[] {1, 1, 1, 2}, 1, 1, 0);
        made("f1", new int[] {0, 3, 3, 0}, 0);
    }

    private static void mean(DreamShares x, int bits, long above, long below) {
        Due.fraction("mean(" + bits + ")", x.mean(bits, 0), x.mean(bits, 1), above, below);
    }

    private static void means() {
        DreamShares x = Due.with("1001;1100", "f4;fw9");
        mean(x, 0, 0, 1);
        mean(x, 1, 1, 1);
        mean(x, 2, 2, 1);
        // ff 8, fw 9, nf 4 - 2, nw - 2
        mean(x, 3, 17, 4);
        mean(x, 63, 17, 4);
        mean(x, 61, 1, 1);
        mean(x, 60, 0, 1);
        x.set(1, 9);
        mean(x, 1, -5, 2);
        x.supper(1, 1);
        // weights f 1, w 4 of 5: ff 8, nf -5, 4 times fw 9, nw -9
        mean(x, 3, 3, 10);
    }

    private static void meansRefused() {
        DreamShares x = Due.with("1001;1100", "");
        Due.same("mean(64)", x.mean(64, 0), Due.BAD_LONG);
        Due.same("mean(-1)", x.mean(-1, 0), Due.BAD_LONG);
        Due.same("mean what 2", x.mean(1, 2), Due.BAD_LONG);
        Due.same("mean what -1", x.mean(1, -1), Due.BAD_LONG);
    }

    /** The greatest weights there are, 45 of each member, so that every product is at its greatest. */
    private static void greatestNumbers() {
        DreamShares x = Due.with("9999;9999;9999;9999;9999;9999", "f9;w8;g7;n6");
        x.set(0, 9);
        x.set(1, 9);
        for (int m = 0; m < 6; m++) {
            x.supper(m, 0);
        }
        // each dream for itself: (18 * 9 + 9 * 8 + 9 * 7 - 9 * 3) / 45 = 6
        mean(x, 63, 36, 1);
        Due.fraction("share(0)", x.share(0, 0), x.share(0, 1), 6, 1);
        Due.fraction("strike(62)", x.strike(62, 0), x.strike(62, 1), 30, 1);
    }
}
