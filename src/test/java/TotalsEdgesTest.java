/** The edges of section 4 and of promises 24 to 28: rows, may, likeliest, kept, week. */
public final class TotalsEdgesTest {
    /** Pools that are too small or too large in one KIND. */
    private static final int[][] ODD_POOLS = {{-1, 0, 0, 0}, {0, -1, 0, 0}, {0, 0, -1, 0}, {0, 0, 0, -1}, {7, 0, 0, 0},
        {0, 7, 0, 0}, {0, 0, 7, 0}, {0, 0, 0, 7}, {7, -4, 0, 0}, {-1, 4, 0, 0}, {Edge.LEAST, 0, 0, 0},
        {0, Edge.MOST, 0, 0}, {0, 0, Edge.LEAST, 0}, {0, 0, 0, Edge.MOST}, {1 << 30, 1 << 30, 1 << 30, 1 << 30}};

    public static void main(String[] args) {
        rowsNeverByWeightZero();
        rowsOfAsManyAsThereAre();
        rowsOfNobody();
        rowsBad();
        mayNeverByWeightZero();
        mayOfNoRows();
        mayBad();
        likeliestOfLikeOnes();
        likeliestOfNoRows();
        likeliestBad();
        keptOfThoseNoted();
        keptOfThoseThatThereAre();
        keptOfJustThatPool();
        keptBad();
        weekOfOneToSixtyNights();
        weekLessThanTheFirst();
        weekOfNobody();
        weekFirstNightOfLoss();
        weekWithoutLoss();
        weekBad();
        Due.end();
    }

    private static void rowsNeverByWeightZero() {
        Due.sentence("ROWS: in how many ways MEMBERS can have dreamt it (WEIGHTS of 0: never)");
        DreamShares x = Due.with("1000;9000;0100", "");
        Due.same("the only row", x.rows(2, 1, 0, 0), 1);
        Due.same("never", x.rows(1, 2, 0, 0), 0);
        Due.same("never", x.rows(3, 0, 0, 0), 0);
        Due.same("never", x.rows(0, 0, 0, 3), 0);
        x.supper(2, 0);
        Due.same("by a SUPPER", x.rows(3, 0, 0, 0), 1);
        x.set(0, 0);
        Due.same("by a SUPPER without SPICE", x.rows(3, 0, 0, 0), 0);
        DreamShares y = Due.with("1900;9100;1100", "");
        Due.same("ways, whatever the weights are", y.rows(2, 1, 0, 0), 3);
    }

    private static void rowsOfAsManyAsThereAre() {
        Due.sentence("ROWS of a POOL (of each 0 to 6)");
        long[] factorial = {1, 1, 2, 6, 24, 120, 720};
        for (int f = 0; f <= 6; f++) {
            for (int w = 0; w <= 6; w++) {
                DreamShares six = Due.with("1111;1111;1111;1111;1111;1111", "");
                for (int g = 0; g <= 6; g++) {
                    for (int n = 0; n <= 6; n++) {
                        long ways = 720 / (factorial[f] * factorial[w] * factorial[g] * factorial[n]);
                        String call = "rows(" + f + ", " + w + ", " + g + ", " + n + ")";
                        Due.same(call, six.rows(f, w, g, n), f + w + g + n == 6 ? ways : 0);
                    }
                }
            }
        }
    }

    private static void rowsOfNobody() {
        Due.sentence("in how many ways MEMBERS can have dreamt it (here nobody)");
        DreamShares x = new DreamShares();
        Due.same("nothing", x.rows(0, 0, 0, 0), 1);
        Due.same("something", x.rows(1, 0, 0, 0), 0);
        Due.same("as much as can be", x.rows(6, 6, 6, 6), 0);
        Due.same("nothing of somebody", Due.with("1111", "").rows(0, 0, 0, 0), 0);
    }

    private static void rowsBad() {
        Due.sentence("rows: BAD");
        for (int[] p : ODD_POOLS) {
            Edge.bad("rows", x -> x.rows(p[0], p[1], p[2], p[3]), -2);
            Edge.refused(DreamShares::new, "rows of nobody", x -> x.rows(p[0], p[1], p[2], p[3]), -2, 0);
        }
    }

    private static void mayNeverByWeightZero() {
        Due.sentence("MAY: KINDS that a MEMBER may have dreamt, by these, as bits");
        DreamShares x = Due.with("1111;1110;1100;1000", "");
        Due.same("all four", x.may(1, 1, 1, 1, 0), 8);
        Due.same("what is left", x.may(1, 1, 1, 1, 1), 4);
        Due.same("what is left", x.may(1, 1, 1, 1, 3), 1);
        Due.same("two of f", x.may(2, 1, 1, 0, 0), 7);
        Due.same("two of f", x.may(2, 1, 1, 0, 2), 3);
        DreamShares six = Due.with("1111;1111;1111;1111;1111;1111", "");
        Due.same("all kinds", six.may(2, 2, 1, 1, 5), 15);
        Due.same("one kind", six.may(0, 0, 0, 6, 5), 8);
        Due.same("one kind", six.may(6, 0, 0, 0, 0), 1);
        DreamShares one = Due.with("1001", "");
        Due.same("one alone", one.may(0, 0, 0, 1, 0), 8);
        one.supper(0, 1);
        Due.same("by a SUPPER", one.may(0, 1, 0, 0, 0), 2);
        one.set(0, 0);
        Due.same("without SPICE", one.may(0, 1, 0, 0, 0), 0);
    }

    private static void mayOfNoRows() {
        Due.sentence("MAY, as bits (none by which there are no ROWS)");
        DreamShares x = Due.with("1000;0100", "");
        for (int m = 0; m < 2; m++) {
            Due.same("nothing", x.may(0, 0, 0, 0, m), 0);
            Due.same("too few", x.may(1, 0, 0, 0, m), 0);
            Due.same("too many", x.may(1, 1, 1, 0, m), 0);
            Due.same("as many as can be", x.may(6, 6, 6, 6, m), 0);
            Due.same("never", x.may(2, 0, 0, 0, m), 0);
        }
    }

    private static void mayBad() {
        Due.sentence("may: BAD");
        for (int[] p : ODD_POOLS) {
            Edge.bad("may", x -> x.may(p[0], p[1], p[2], p[3], 0), -2);
        }
        for (int member : Edge.outside(0, 2)) {
            Edge.bad("may of " + member, x -> x.may(1, 1, 1, 0, member), -2);
            Edge.bad("may of " + member + ", no rows", x -> x.may(6, 6, 6, 6, member), -2);
        }
        Edge.refused(DreamShares::new, "may of nobody", x -> x.may(0, 0, 0, 0, 0), -2, 0);
    }

    private static void likeliest(DreamShares x, int f, int w, int g, int n, int... kinds) {
        for (int m = 0; m < kinds.length; m++) {
            Due.same("likeliest of " + m, x.likeliest(f, w, g, n, m), kinds[m]);
        }
    }

    private static void likeliestOfLikeOnes() {
        Due.sentence("LIKELIEST: of these rows that with the greatest chance, of like ones the least (MEMBERS 0 on)");
        DreamShares six = Due.with("1111;1111;1111;1111;1111;1111", "");
        likeliest(six, 2, 2, 1, 1, 0, 0, 1, 1, 2, 3);
        likeliest(six, 0, 0, 0, 6, 3, 3, 3, 3, 3, 3);
        likeliest(six, 0, 1, 0, 5, 1, 3, 3, 3, 3, 3);
        DreamShares nine = Due.with("9999;9999;9999;9999;9999;9999", "");
        likeliest(nine, 1, 2, 3, 0, 0, 1, 1, 2, 2, 2);
        // f w 2 * 3, w f 6 * 1: like ones
        likeliest(Due.with("2600;1300", ""), 1, 1, 0, 0, 0, 1);
        // f w 2 * 3, w f 7 * 1
        likeliest(Due.with("2700;1300", ""), 1, 1, 0, 0, 1, 0);
        // the likeliest dream of each for itself is w for both
        likeliest(Due.with("1900;2900", ""), 1, 1, 0, 0, 1, 0);
    }

    private static void likeliestOfNoRows() {
        Due.sentence("LIKELIEST: the KIND; NONE: there are no ROWS");
        DreamShares x = Due.with("1000;0100", "");
        likeliest(x, 1, 1, 0, 0, 0, 1);
        likeliest(x, 0, 0, 0, 0, -1, -1);
        likeliest(x, 1, 0, 0, 0, -1, -1);
        likeliest(x, 1, 1, 1, 0, -1, -1);
        likeliest(x, 2, 0, 0, 0, -1, -1);
        likeliest(x, 6, 6, 6, 6, -1, -1);
        x.supper(1, 0);
        likeliest(x, 2, 0, 0, 0, 0, 0);
        x.set(0, 0);
        likeliest(x, 2, 0, 0, 0, -1, -1);
    }

    private static void likeliestBad() {
        Due.sentence("likeliest: BAD");
        for (int[] p : ODD_POOLS) {
            Edge.bad("likeliest", x -> x.likeliest(p[0], p[1], p[2], p[3], 0), -2);
        }
        for (int member : Edge.outside(0, 2)) {
            Edge.bad("likeliest of " + member, x -> x.likeliest(1, 1, 1, 0, member), -2);
            Edge.bad("likeliest of " + member + ", no rows", x -> x.likeliest(6, 6, 6, 6, member), -2);
        }
        Edge.refused(DreamShares::new, "likeliest of nobody", x -> x.likeliest(0, 0, 0, 0, 0), -2, 0);
    }

    private static DreamShares noted(String members, int... kinds) {
        DreamShares x = Due.with(members, "");
        for (int m = 0; m < kinds.length; m++) {
            x.dreamt(m, kinds[m]);
        }
        return x;
    }

    private static void keptOfThoseNoted() {
        Due.sentence("KEPT: MEMBERS that there are (whose dream is noted)");
        DreamShares x = noted("1000;1000;1000", -1, -1, -1);
        Due.same("nothing is noted, nothing is told", x.kept(0, 0, 0, 0), 0);
        Due.same("nothing is noted, something is told", x.kept(1, 0, 0, 0), 0);
        x.dreamt(1, 0);
        Due.same("the only one", x.kept(0, 0, 0, 0), 2);
        x.dreamt(1, -1);
        Due.same("not noted any more", x.kept(0, 0, 0, 0), 0);
        DreamShares y = noted("1000;1000;1000", 3, 3, 3);
        Due.same("a KIND of weight 0 may be noted", y.kept(0, 0, 0, 2), 7);
    }

    private static void keptOfThoseThatThereAre() {
        Due.sentence("of all that are noted of MEMBERS that there are, as bits");
        DreamShares x = noted("1000;1000", 0, 1, 0, 0, 0, 0);
        Due.same("the first of two", x.kept(0, 1, 0, 0), 1);
        Due.same("the others are not there", x.kept(4, 1, 0, 0), 0);
        Due.retype(x, 0, "1000;1000;1000;1000;1000;1000");
        Due.same("five of six", x.kept(4, 1, 0, 0), 1 + 4 + 8 + 16 + 32);
        Due.same("one of six", x.kept(5, 0, 0, 0), 2);
        x.type(0, '1');
        x.undo(0);
        Due.same("nobody by a FAULT", x.kept(4, 1, 0, 0), 0);
        Due.same("nobody by a FAULT", x.kept(0, 0, 0, 0), 0);
    }

    private static void keptOfJustThatPool() {
        Due.sentence("without whose dream just that POOL is left");
        DreamShares x = noted("1000;1000;1000;1000", 0, 1, 2, 3);
        int[][] pools = {{0, 1, 1, 1}, {1, 0, 1, 1}, {1, 1, 0, 1}, {1, 1, 1, 0}};
        for (int m = 0; m < 4; m++) {
            int[] p = pools[m];
            Due.same("without " + m, x.kept(p[0], p[1], p[2], p[3]), 1 << m);
        }
        Due.same("all", x.kept(1, 1, 1, 1), 0);
        Due.same("two less", x.kept(0, 0, 1, 1), 0);
        Due.same("none", x.kept(0, 0, 0, 0), 0);
        Due.same("one less and one more", x.kept(0, 2, 1, 1), 0);
        Due.same("two less and one more", x.kept(0, 0, 2, 1), 0);
        Due.same("as many as can be", x.kept(6, 6, 6, 6), 0);
    }

    private static void keptBad() {
        Due.sentence("kept: BAD");
        for (int[] p : ODD_POOLS) {
            Edge.bad("kept", x -> x.kept(p[0], p[1], p[2], p[3]), -2);
            Edge.refused(DreamShares::new, "kept of nobody", x -> x.kept(p[0], p[1], p[2], p[3]), -2, 0);
        }
    }

    private static void weekOfOneToSixtyNights() {
        Due.sentence("WEEK by a SEED: n (1 to 60) nights; WORTH of all nights together");
        DreamShares x = Due.with("1000;1000;1000;1000;1000;1000", "f9");
        for (int n = -1; n <= 62; n++) {
            Due.same("week(5, " + n + ", 0)", x.week(5, n, 0), n >= 1 && n <= 60 ? 54 * n : -10002);
            Due.same("week(5, " + n + ", 1)", x.week(5, n, 1), n >= 1 && n <= 60 ? -1 : -10002);
        }
        DreamShares y = Due.with("0001;0001;0001;0001;0001;0001", "");
        y.set(1, 9);
        Due.same("the least of all", y.week(5, 60, 0), -3240);
    }

    /** The first seed after 0 is 12345, with upper bits 0; the upper bits of the second are 54236, by 9 the lot 2. */
    private static void weekLessThanTheFirst() {
        Due.sentence("by a LOT of its WEIGHTS together: less than the first: f, else less than the first two: w, and so on");
        int[] worths = {1, 2, 3, -2};
        String[] second = {"3006", "2106", "1206", "0306", "2016", "1116", "0216", "1026", "0036", "2007", "0207", "0027"};
        int[] kinds = {0, 1, 1, 1, 2, 2, 2, 2, 2, 3, 3, 3};
        for (int i = 0; i < second.length; i++) {
            DreamShares x = Due.with("1000;" + second[i], "f1;w2;g3");
            Due.same("f and one of " + second[i], x.week(0, 1, 0), 1 + worths[kinds[i]]);
        }
    }

    private static void weekOfNobody() {
        Due.sentence("WEEK: in each each MEMBER from 0 on dreams (here nobody)");
        DreamShares x = Due.with("", "f9;n9");
        x.set(1, 9);
        Due.same("nothing together", x.week(5, 60, 0), 0);
        Due.same("no loss", x.week(5, 60, 1), -1);
    }

    private static void weekFirstNightOfLoss() {
        Due.sentence("the first night (0 on) whose WORTH is below 0");
        DreamShares x = Due.with("0001", "");
        Due.same("night 0", x.week(5, 60, 1), 0);
        Due.same("night 0, the only one", x.week(5, 1, 1), 0);
        for (int seed = 0; seed < 40; seed++) {
            DreamShares y = Due.with("1001", "");
            y.sheet(0, 0, 48);
            y.write(seed, 0);
            int first = 0;
            while (first < 47 && y.get(0, 0, first) == 0) {
                first++;
            }
            Due.same("week(" + seed + ", 48, 1)", y.week(seed, 48, 1), first);
            Due.same("just up to that night", y.week(seed, first + 1, 1), first);
            Due.same("just ahead of it", first == 0 ? -1 : y.week(seed, first, 1), -1);
        }
    }

    private static void weekWithoutLoss() {
        Due.sentence("whose WORTH is below 0; NONE");
        DreamShares x = Due.with("0001;1000", "f2");
        Due.same("0 is not below 0", x.week(5, 60, 1), -1);
        x.set(1, 3);
        Due.same("-1 is", x.week(5, 60, 1), 0);
        x.set(1, 0);
        Due.same("without LOSS never", x.week(5, 60, 1), -1);
    }

    private static void weekBad() {
        Due.sentence("week: BAD: -10002");
        for (int n : Edge.outside(1, 60)) {
            Edge.bad("week(5, " + n + ", 0)", x -> x.week(5, n, 0), -10002);
            Edge.bad("week(5, " + n + ", 1)", x -> x.week(5, n, 1), -10002);
        }
        for (int what : Edge.outside(0, 1)) {
            Edge.bad("week(5, 9, " + what + ")", x -> x.week(5, 9, what), -10002);
        }
        Edge.refused(DreamShares::new, "week(5, 0, 0) of nobody", x -> x.week(5, 0, 0), -10002, 0);
    }
}
