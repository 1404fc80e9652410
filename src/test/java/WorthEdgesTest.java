/** The edges of section 2 and of promises 13 to 16: chance, worth, made, mean. */
public final class WorthEdgesTest {
    private static final long BAD_LONG = Due.BAD_LONG;
    /** Pools that are too small or too large in one KIND. */
    private static final int[][] ODD_POOLS = {{-1, 0, 0, 0}, {0, -1, 0, 0}, {0, 0, -1, 0}, {0, 0, 0, -1}, {7, 0, 0, 0},
        {0, 7, 0, 0}, {0, 0, 7, 0}, {0, 0, 0, 7}, {7, -1, 0, 0}, {-1, 0, 0, 7}, {Edge.LEAST, 0, 0, 0},
        {0, Edge.MOST, 0, 0}, {0, 0, Edge.LEAST, 0}, {0, 0, 0, Edge.MOST}};
    /** Pools of each KIND 0 to 6, but more than six together; and such as wrap to few. */
    private static final int[][] LARGE_POOLS = {{6, 1, 0, 0}, {1, 6, 0, 0}, {0, 6, 1, 0}, {0, 0, 1, 6}, {2, 2, 2, 1},
        {1, 2, 2, 2}, {4, 0, 0, 3}, {6, 6, 6, 6}, {1 << 30, 1 << 30, 1 << 30, 1 << 30}, {Edge.MOST, Edge.MOST, 2, 0}};

    public static void main(String[] args) {
        chanceOfAll();
        chanceBad();
        worthOfEachKind();
        worthOfSixTogether();
        worthBad();
        madeRowIsGreatest();
        madeOfNothing();
        madeBad();
        meanOfThoseThatThereAre();
        meanOfNobody();
        meanBad();
        Due.end();
    }

    private static void chance(DreamShares x, int member, int kind, long above, long below) {
        String call = "chance(" + member + ", " + kind + ")";
        Due.fraction(call, x.chance(member, kind, 0), x.chance(member, kind, 1), above, below);
    }

    private static void chanceOfAll() {
        Due.sentence("CHANCE that a MEMBER dreams a KIND: a FRACTION; CHANCE: above, below");
        DreamShares x = Due.with("9999;0001;0100;0010;9000;1001", "");
        chance(x, 0, 0, 1, 4);
        chance(x, 1, 3, 1, 1);
        chance(x, 1, 0, 0, 1);
        chance(x, 5, 3, 1, 2);
        chance(x, 5, 1, 0, 1);
        x.set(0, 9);
        x.supper(0, 0);
        chance(x, 0, 0, 2, 5);
        chance(x, 0, 3, 1, 5);
        x.supper(4, 3);
        chance(x, 4, 3, 1, 2);
        x.supper(2, 1);
        chance(x, 2, 1, 1, 1);
    }

    private static void chanceBad() {
        Due.sentence("chance: BAD");
        for (int member : Edge.outside(0, 2)) {
            Edge.bad("chance(" + member + ", 0, 0)", x -> x.chance(member, 0, 0), BAD_LONG);
        }
        for (int kind : Edge.outside(0, 3)) {
            Edge.bad("chance(0, " + kind + ", 0)", x -> x.chance(0, kind, 0), BAD_LONG);
        }
        for (int what : Edge.outside(0, 1)) {
            Edge.bad("chance(0, 0, " + what + ")", x -> x.chance(0, 0, what), BAD_LONG);
        }
        Edge.refused(Edge::full, "of a seventh", x -> x.chance(6, 0, 0), BAD_LONG, Edge.SIZE);
        Edge.refused(DreamShares::new, "of nobody", x -> x.chance(0, 0, 0), BAD_LONG, 0);
    }

    private static void worthOfEachKind() {
        Due.sentence("WORTH of a POOL (of each KIND 0 to 6 ...)");
        DreamShares x = Due.with("", "f1;w2;g3;n4");
        Due.same("none of each", x.worth(0, 0, 0, 0), 0);
        Due.same("6 of f", x.worth(6, 0, 0, 0), 6);
        Due.same("6 of w", x.worth(0, 6, 0, 0), 12);
        Due.same("6 of g", x.worth(0, 0, 6, 0), 18);
        Due.same("6 of n", x.worth(0, 0, 0, 6), 24 - 12);
        x.set(1, 9);
        Due.same("6 of n at the greatest LOSS", x.worth(0, 0, 0, 6), 24 - 54);
        Due.retype(x, 1, "n9");
        x.set(1, 0);
        Due.same("the most of all", x.worth(0, 0, 0, 6), 54);
        x.wipe(1);
        x.set(1, 9);
        Due.same("the least of all", x.worth(0, 0, 0, 6), -54);
    }

    private static void worthOfSixTogether() {
        Due.sentence("6 together at most");
        for (int f = 0; f <= 7; f++) {
            for (int w = 0; w <= 7; w++) {
                DreamShares x = Due.with("", "f1;w2;g3;n4");
                x.set(1, 0);
                for (int g = 0; g <= 7; g++) {
                    for (int n = 0; n <= 7; n++) {
                        int want = f + w + g + n <= 6 ? f + 2 * w + 3 * g + 4 * n : -10002;
                        Due.same("worth(" + f + ", " + w + ", " + g + ", " + n + ")", x.worth(f, w, g, n), want);
                    }
                }
            }
        }
    }

    private static void worthBad() {
        Due.sentence("worth: BAD: -10002");
        for (int[] p : ODD_POOLS) {
            Edge.bad("worth of an odd pool", x -> x.worth(p[0], p[1], p[2], p[3]), -10002);
        }
        for (int[] p : LARGE_POOLS) {
            Edge.bad("worth of a large pool", x -> x.worth(p[0], p[1], p[2], p[3]), -10002);
        }
    }

    private static void made(String recipes, int f, int w, int g, int n, int... often) {
        DreamShares x = Due.with("", recipes);
        for (int r = 0; r < often.length; r++) {
            Due.same("recipe " + r + " of " + recipes, x.made(f, w, g, n, r), often[r]);
        }
    }

    private static void madeRowIsGreatest() {
        Due.sentence("of all by which the PRICES are the most the row by RECIPES 0 on that is greatest");
        made("f1;f1", 6, 0, 0, 0, 6, 0);
        made("f1;f1;f1;f1;f1;f1", 0, 6, 0, 0, 0, 0, 0, 0, 0, 0);
        made("ff2;f1", 5, 0, 0, 0, 2, 1);
        made("f1;ff2", 5, 0, 0, 0, 5, 0);
        made("fw2;fg2;wg2", 1, 1, 1, 0, 1, 0, 0);
        // two of fw leave both g over, and that is less
        made("fw2;fg2;wg2", 2, 2, 2, 0, 1, 1, 1);
        made("fw2;fg2;wg2", 2, 2, 1, 0, 2, 0, 0);
        made("fg2;wn2;fw4", 1, 1, 1, 1, 1, 1, 0);
        made("fg2;fw4;wn2", 1, 1, 1, 1, 1, 0, 1);
        made("fg1;fw4;wn2", 1, 1, 1, 1, 0, 1, 0);
        // the first recipes are left out where they keep dearer ones from being made
        made("f1;w1;ff9;ww9", 2, 2, 0, 0, 0, 0, 1, 1);
        made("f1;w1;ff9;ww9", 3, 3, 0, 0, 1, 1, 1, 1);
        // a nightmare costs the same whether it is made or not
        made("n1", 0, 0, 0, 6, 6);
    }

    private static void madeOfNothing() {
        Due.sentence("MADE: how often a RECIPE is");
        made("f1;ww1", 0, 0, 0, 0, 0, 0);
        made("f1;ww1", 0, 1, 5, 0, 0, 0);
        made("f1;ww1", 6, 0, 0, 0, 6, 0);
        made("f1;ww1", 0, 6, 0, 0, 0, 3);
        made("f9;w9;g9;n9;fw9;gn9", 2, 2, 1, 1, 2, 2, 1, 1, 0, 0);
        // of the first one there is a half alone, and its PRICE is the most, too
        made("fw3;ff3", 2, 0, 0, 0, 0, 1);
        made("wf3;ff3", 2, 0, 0, 0, 0, 1);
        made("nn3;gg3", 0, 0, 2, 1, 0, 1);
    }

    private static void madeBad() {
        Due.sentence("made: BAD");
        for (int[] p : ODD_POOLS) {
            Edge.bad("made of an odd pool", x -> x.made(p[0], p[1], p[2], p[3], 0), -2);
        }
        for (int[] p : LARGE_POOLS) {
            Edge.bad("made of a large pool", x -> x.made(p[0], p[1], p[2], p[3], 0), -2);
        }
        for (int recipe : Edge.outside(0, 2)) {
            Edge.bad("made of recipe " + recipe, x -> x.made(1, 1, 1, 1, recipe), -2);
        }
        Edge.refused(Edge::full, "made by a text with a FAULT", x -> x.made(1, 1, 1, 1, 0), -2, Edge.SIZE);
        Edge.refused(DreamShares::new, "made without recipes", x -> x.made(0, 0, 0, 0, 0), -2, 0);
    }

    private static void mean(DreamShares x, int bits, long above, long below) {
        Due.fraction("mean(" + bits + ")", x.mean(bits, 0), x.mean(bits, 1), above, below);
    }

    private static void meanOfThoseThatThereAre() {
        Due.sentence("MEAN of some MEMBERS (bits; of those that there are)");
        DreamShares x = Due.with("1001;1000", "f4");
        for (int beyond = 0; beyond < 64; beyond += 4) {
            mean(x, beyond, 0, 1);
            mean(x, beyond + 1, 1, 1);
            mean(x, beyond + 2, 4, 1);
            mean(x, beyond + 3, 5, 1);
        }
        DreamShares six = Due.with("1000;1000;1000;1000;1000;1000", "f9");
        for (int bits = 0; bits < 64; bits++) {
            mean(six, bits, 9 * Integer.bitCount(bits), 1);
        }
    }

    private static void meanOfNobody() {
        Due.sentence("MEAN: a POOL of one dream of each of these (of none: an empty one)");
        mean(new DreamShares(), 0, 0, 1);
        mean(new DreamShares(), 63, 0, 1);
        mean(Due.with("", "f9;n9"), 63, 0, 1);
        mean(Due.with("0001;0001;0001;0001;0001;0001", ""), 0, 0, 1);
        mean(Due.with("0001;0001;0001;0001;0001;0001", ""), 63, -12, 1);
        // all weights and the SPICE at their greatest: 9 * 18 of 45 for each
        DreamShares x = Due.with("9999;9999;9999;9999;9999;9999", "f9");
        x.set(0, 9);
        x.set(1, 0);
        for (int m = 0; m < 6; m++) {
            x.supper(m, 0);
        }
        mean(x, 63, 108, 5);
    }

    private static void meanBad() {
        Due.sentence("mean: BAD (bits 0 to 63)");
        for (int bits : Edge.outside(0, 63)) {
            Edge.bad("mean(" + bits + ", 0)", x -> x.mean(bits, 0), BAD_LONG);
        }
        for (int what : Edge.outside(0, 1)) {
            Edge.bad("mean(1, " + what + ")", x -> x.mean(1, what), BAD_LONG);
            Edge.refused(DreamShares::new, "mean(0, " + what + ")", x -> x.mean(0, what), BAD_LONG, 0);
        }
    }
}
