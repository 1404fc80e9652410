/** The edges of section 3 and of promises 17 to 23: share, leave, strike, best, menu, menuMean, dread. */
public final class SharesEdgesTest {
    private static final long BAD_LONG = Due.BAD_LONG;

    public static void main(String[] args) {
        shareOfOne();
        shareOfSix();
        shareBad();
        leaveOfMoreThanPay();
        leaveOfTheFewest();
        leaveOfTheLeastBits();
        leaveOfAll();
        leaveOfNobody();
        strikeOfNone();
        strikeOfAll();
        strikeBad();
        bestIsNoneAheadOfAll();
        bestIsTheLeast();
        bestBad();
        menuOfAsManyAsThereAre();
        menuIsTheLeastRow();
        menuHasAKindForEach();
        menuOthersAsTheyAre();
        menuBad();
        menuMeanOfOneToThree();
        menuMeanBad();
        dreadOfNone();
        dreadOfMoreThanThereAre();
        dreadOfSix();
        dreadBad();
        Due.end();
    }

    private static void share(DreamShares x, int member, long above, long below) {
        Due.fraction("share(" + member + ")", x.share(member, 0), x.share(member, 1), above, below);
    }

    private static void shareOfOne() {
        Due.sentence("SHARE of a MEMBER: by how much it makes the MEAN more, coming to those who came ahead (here nobody)");
        share(Due.with("1000", "f9"), 0, 9, 1);
        share(Due.with("1001", "f1"), 0, -1, 2);
        share(Due.with("0100", "f9"), 0, 0, 1);
    }

    private static void shareOfSix() {
        Due.sentence("on the mean of all rows in which they can come: a FRACTION");
        // five come with w and one with f: whoever completes a pair; f alone brings 0
        DreamShares x = Due.with("1000;0100;0100;0100;0100;0100", "fw6");
        // f comes first in one row of six, and brings nothing then
        share(x, 0, 5, 1);
        for (int m = 1; m < 6; m++) {
            share(x, m, 1, 5);
        }
        DreamShares same = Due.with("9999;9999;9999;9999;9999;9999", "f8;w4");
        same.set(1, 4);
        for (int m = 0; m < 6; m++) {
            share(same, m, 2, 1);
        }
        // the greatest divisor: 45 for each
        DreamShares y = Due.with("9999;9999;9999;9999;9999;9999", "");
        y.set(0, 9);
        y.set(1, 9);
        for (int m = 0; m < 6; m++) {
            y.supper(m, 0);
        }
        share(y, 5, -9, 5);
    }

    private static void shareBad() {
        Due.sentence("share: BAD");
        for (int member : Edge.outside(0, 2)) {
            Edge.bad("share(" + member + ", 0)", x -> x.share(member, 0), BAD_LONG);
        }
        for (int what : Edge.outside(0, 1)) {
            Edge.bad("share(0, " + what + ")", x -> x.share(0, what), BAD_LONG);
        }
        Edge.refused(Edge::full, "of a seventh", x -> x.share(6, 0), BAD_LONG, Edge.SIZE);
        Edge.refused(DreamShares::new, "of nobody", x -> x.share(0, 0), BAD_LONG, 0);
    }

    private static void leaveOfMoreThanPay() {
        Due.sentence("LEAVE: ... whose MEAN is more than their PAY together");
        DreamShares x = Due.with("1000", "f9");
        Due.same("9 by 0", x.leave(), 1);
        x.pay(0, 8);
        Due.same("9 by 8", x.leave(), 1);
        x.pay(0, 9);
        Due.same("9 by 9", x.leave(), -1);
        x.pay(0, 99);
        Due.same("9 by 99", x.leave(), -1);
        DreamShares half = Due.with("1100", "f9");
        half.pay(0, 4);
        Due.same("9 of 2 by 4", half.leave(), 1);
        half.pay(0, 5);
        Due.same("9 of 2 by 5", half.leave(), -1);
        DreamShares none = Due.with("0100;0001", "");
        Due.same("0 or less by 0", none.leave(), -1);
    }

    private static void leaveOfTheFewest() {
        Due.sentence("that with the fewest");
        DreamShares x = Due.with("1000;0100;0010;1000", "fw9;f1");
        x.pay(0, 1);
        x.pay(3, 1);
        Due.same("0 and 1 make 9 by 1", x.leave(), 3);
        x.pay(3, 0);
        Due.same("3 alone makes 1 by 0, with more bits", x.leave(), 8);
        DreamShares six = Due.with("0100;0100;0100;0100;0100;1000", "f1;fw9");
        Due.same("the last alone", six.leave(), 32);
        six.pay(5, 1);
        Due.same("the first and the last", six.leave(), 33);
        six.pay(0, 9);
        Due.same("the second and the last", six.leave(), 34);
    }

    private static void leaveOfTheLeastBits() {
        Due.sentence("of like ones the least bits");
        DreamShares x = Due.with("1000;1000;1000;1000;1000;1000", "ff9");
        Due.same("two of six", x.leave(), 3);
        x.pay(0, 9);
        Due.same("two of five", x.leave(), 6);
        x.pay(2, 9);
        Due.same("1 and 3", x.leave(), 10);
        x.pay(1, 9);
        Due.same("3 and 4", x.leave(), 24);
        x.pay(3, 9);
        Due.same("4 and 5", x.leave(), 48);
    }

    private static void leaveOfAll() {
        Due.sentence("of all sets of MEMBERS");
        // f or w each: two make 9 of 2, three 27 of 4, four 45 of 4, five 225 of 16, six 297 of 16
        DreamShares x = Due.with("1100;1100;1100;1100;1100;1100", "fw9");
        for (int m = 0; m < 6; m++) {
            x.pay(m, 3);
        }
        Due.same("all six by 18", x.leave(), 63);
        x.pay(5, 4);
        Due.same("nobody by 19", x.leave(), -1);
        x.pay(2, 2);
        Due.same("four by 11", x.leave(), 15);
        x.pay(1, 2);
        Due.same("two by 4", x.leave(), 6);
    }

    private static void leaveOfNobody() {
        Due.sentence("LEAVE: sets of MEMBERS (not none); NONE");
        Due.same("nobody is there", new DreamShares().leave(), -1);
        Due.same("nobody is there, with recipes", Due.with("", "f9").leave(), -1);
        Due.same("nobody is there, by a FAULT", Due.with("1000;", "f9").leave(), -1);
        DreamShares x = Due.with("0001;0001", "");
        Due.same("none would be better off than -2, but is no set", x.leave(), -1);
    }

    private static void strike(DreamShares x, int bits, long above, long below) {
        Due.fraction("strike(" + bits + ")", x.strike(bits, 0), x.strike(bits, 1), above, below);
    }

    private static void strikeOfNone() {
        Due.sentence("STRIKE of some (bits) (here none, or such as are not there)");
        DreamShares x = Due.with("1001;1000", "f4");
        strike(x, 0, 0, 1);
        for (int beyond = 0; beyond < 64; beyond += 4) {
            strike(x, beyond, 0, 1);
            strike(x, beyond + 1, 1, 1);
            strike(x, beyond + 2, 4, 1);
            strike(x, beyond + 3, 5, 1);
        }
        strike(new DreamShares(), 63, 0, 1);
    }

    private static void strikeOfAll() {
        Due.sentence("by how much the MEAN of all is more than that without these: a FRACTION");
        DreamShares x = Due.with("1000;1000;1000;1000;1000;0001", "f9");
        strike(x, 63, 43, 1);
        strike(x, 31, 45, 1);
        strike(x, 32, -2, 1);
        // less than one pair is left over
        DreamShares y = Due.with("1000;1000;1000", "ff9");
        strike(y, 1, 0, 1);
        strike(y, 3, 9, 1);
    }

    private static void strikeBad() {
        Due.sentence("strike: BAD (bits 0 to 63)");
        for (int bits : Edge.outside(0, 63)) {
            Edge.bad("strike(" + bits + ", 0)", x -> x.strike(bits, 0), BAD_LONG);
        }
        for (int what : Edge.outside(0, 1)) {
            Edge.bad("strike(1, " + what + ")", x -> x.strike(1, what), BAD_LONG);
            Edge.refused(DreamShares::new, "strike(0, " + what + ")", x -> x.strike(0, what), BAD_LONG, 0);
        }
    }

    private static void bestIsNoneAheadOfAll() {
        Due.sentence("BEST SUPPER of a MEMBER: the KIND (or NONE, ahead of all); BEST SUPPER (NONE: none)");
        Due.same("f alone, all like", Due.with("1000", "f1").best(0), -1);
        Due.same("nothing is worth anything", Due.with("1110", "").best(0), -1);
        DreamShares x = Due.with("1111;1111", "g9");
        x.set(0, 0);
        x.supper(0, 2);
        Due.same("no SPICE", x.best(0), -1);
        DreamShares worse = Due.with("9000", "f9;w1");
        Due.same("each kind is worse or like", worse.best(0), -1);
        Due.same("like by f", Due.with("5000", "f9").best(0), -1);
    }

    private static void bestIsTheLeast() {
        Due.sentence("by which the MEAN of all is the most, of like ones the least");
        Due.same("f, w, g alike", Due.with("0001", "").best(0), 0);
        Due.same("w and g alike", Due.with("1111", "w5;g5").best(0), 1);
        Due.same("g alone", Due.with("1111", "g5").best(0), 2);
        DreamShares x = Due.with("1111", "n5");
        x.set(1, 0);
        Due.same("n alone", x.best(0), 3);
        // 19 of 10 by none, 25 of 13 by f
        Due.same("a little more is more", Due.with("9100", "f2;w1").best(0), 0);
        // the first dreams f anyway, so that w is met best
        DreamShares six = Due.with("1000;1111;0010;0010;0010;1111", "fw9;fn1");
        Due.same("the first of six", six.best(0), -1);
        Due.same("the second of six", six.best(1), 1);
        Due.same("the last of six", six.best(5), 1);
        DreamShares last = Due.with("1000;1111", "fw9");
        Due.same("the second of two", last.best(1), 1);
        DreamShares two = Due.with("1111;1000", "fw9");
        Due.same("w to the other's f", two.best(0), 1);
        two.supper(0, 3);
        Due.same("what it has does not matter", two.best(0), 1);
        Due.same("it has it still", two.supper(0, 3), 3);
    }

    private static void bestBad() {
        Due.sentence("best: BAD: -2");
        for (int member : Edge.outside(0, 2)) {
            Edge.bad("best(" + member + ")", x -> x.best(member), -2);
        }
        Edge.bad("a seat without a member", x -> x.best(5), -2);
        Edge.refused(Edge::full, "a seventh", x -> x.best(6), -2, Edge.SIZE);
        Edge.refused(DreamShares::new, "nobody", x -> x.best(0), -2, 0);
    }

    private static void menuOfAsManyAsThereAre() {
        Due.sentence("MENU of k (1 to 3, no more than there are)");
        String text = "1000;1000;1000;1000";
        for (int there = 0; there <= 4; there++) {
            DreamShares x = Due.with(text.substring(0, Math.max(0, 5 * there - 1)), "");
            Due.same("there are", x.count(0), there);
            for (int k = 0; k <= 5; k++) {
                boolean isMenu = k >= 1 && k <= 3 && k <= there;
                Due.same("menu(" + k + ", 0) of " + there, x.menu(k, 0), isMenu ? 0 : -2);
                Due.same("menuMean(" + k + ", 1) of " + there, x.menuMean(k, 1), isMenu ? 1 : BAD_LONG);
            }
        }
    }

    private static void menu(DreamShares x, int... kinds) {
        for (int m = 0; m < kinds.length; m++) {
            Due.same("menu(" + kinds.length + ", " + m + ")", x.menu(kinds.length, m), kinds[m]);
        }
    }

    private static void menuIsTheLeastRow() {
        Due.sentence("of like ones the least row: of each the KIND");
        DreamShares x = Due.with("1000;0100;0010", "");
        menu(x, 0);
        menu(x, 0, 0);
        menu(x, 0, 0, 0);
        DreamShares pair = Due.with("1111;1111;1111", "fw9");
        menu(pair, 0, 1);
        DreamShares spiceless = Due.with("0001;0001;0001", "g9");
        spiceless.set(0, 0);
        menu(spiceless, 0, 0, 0);
        DreamShares gold = Due.with("0001;0001;0001", "g9");
        menu(gold, 2, 2, 2);
        DreamShares dark = Due.with("1000;1000;1000", "n9");
        dark.set(1, 0);
        menu(dark, 3, 3, 3);
        // whichever of three is the one with w, or the two
        menu(pair, 0, 0, 1);
    }

    private static void menuHasAKindForEach() {
        Due.sentence("the row of SUPPERS (KINDS, one each) of MEMBERS 0 to k less 1");
        // NONE would be like f, but has no place in a menu
        DreamShares x = Due.with("1000;1000", "f9");
        menu(x, 0, 0);
        Due.fraction("menuMean(2)", x.menuMean(2, 0), x.menuMean(2, 1), 18, 1);
        DreamShares worse = Due.with("9000", "f1");
        worse.supper(0, 3);
        menu(worse, 0);
        Due.same("it has its own still", worse.supper(0, 3), 3);
    }

    private static void menuOthersAsTheyAre() {
        Due.sentence("the others' as they are");
        DreamShares x = Due.with("1111;1111", "fw9");
        x.set(0, 9);
        x.supper(1, 0);
        menu(x, 1);
        x.supper(1, 1);
        menu(x, 0);
        x.supper(0, 3);
        menu(x, 0);
        menu(x, 0, 1);
        // the first dreams f, the second f by 1 of 4
        DreamShares y = Due.with("1000;1000", "f9");
        y.set(1, 0);
        y.supper(1, 3);
        Due.fraction("menuMean(1)", y.menuMean(1, 0), y.menuMean(1, 1), 45, 4);
        Due.fraction("menuMean(2)", y.menuMean(2, 0), y.menuMean(2, 1), 18, 1);
    }

    private static void menuBad() {
        Due.sentence("menu: MENU: the KIND of a MEMBER (0 to k less 1). BAD");
        for (int k = 1; k <= 3; k++) {
            int size = k;
            for (int member : Edge.outside(0, k - 1)) {
                Edge.bad("menu(" + k + ", " + member + ")", x -> x.menu(size, member), -2);
            }
        }
        for (int k : Edge.outside(1, 3)) {
            Edge.bad("menu(" + k + ", 0)", x -> x.menu(k, 0), -2);
            Edge.refused(Edge::full, "menu(" + k + ", 0) of six", x -> x.menu(k, 0), -2, Edge.SIZE);
        }
        Edge.refused(DreamShares::new, "menu(1, 0) of nobody", x -> x.menu(1, 0), -2, 0);
    }

    private static void menuMeanOfOneToThree() {
        Due.sentence("MENU: the MEAN: above, below");
        // n 1, SPICE 3: each dreams g by 3 of 4
        DreamShares x = Due.with("0001;0001;0001;0010", "g6");
        x.set(1, 0);
        long[] above = {21, 15, 39};
        long[] below = {2, 1, 2};
        for (int k = 1; k <= 3; k++) {
            Due.fraction("menuMean(" + k + ")", x.menuMean(k, 0), x.menuMean(k, 1), above[k - 1], below[k - 1]);
        }
        x.set(0, 0);
        Due.fraction("without SPICE", x.menuMean(3, 0), x.menuMean(3, 1), 6, 1);
        x.set(1, 9);
        Due.fraction("below 0", x.menuMean(3, 0), x.menuMean(3, 1), 6 - 27, 1);
    }

    private static void menuMeanBad() {
        Due.sentence("menuMean: BAD");
        for (int k : Edge.outside(1, 3)) {
            Edge.bad("menuMean(" + k + ", 0)", x -> x.menuMean(k, 0), BAD_LONG);
            Edge.refused(Edge::full, "menuMean(" + k + ", 0) of six", x -> x.menuMean(k, 0), BAD_LONG, Edge.SIZE);
        }
        for (int what : Edge.outside(0, 1)) {
            Edge.bad("menuMean(1, " + what + ")", x -> x.menuMean(1, what), BAD_LONG);
        }
        Edge.refused(DreamShares::new, "menuMean(1, 0) of nobody", x -> x.menuMean(1, 0), BAD_LONG, 0);
    }

    private static void dread(DreamShares x, int k, long above, long below) {
        Due.fraction("dread(" + k + ")", x.dread(k, 0), x.dread(k, 1), above, below);
    }

    private static void dreadOfNone() {
        Due.sentence("DREAD of k (0 to 6): the chance that there are k nightmares or more (0: always)");
        dread(new DreamShares(), 0, 1, 1);
        dread(Due.with("1000;1000", ""), 0, 1, 1);
        dread(Due.with("0001;1001", ""), 0, 1, 1);
    }

    private static void dreadOfMoreThanThereAre() {
        Due.sentence("DREAD of k (0 to 6): ... among all (of more than there are: never)");
        for (int k = 1; k <= 6; k++) {
            dread(new DreamShares(), k, 0, 1);
        }
        DreamShares x = Due.with("0001;0001", "");
        dread(x, 2, 1, 1);
        for (int k = 3; k <= 6; k++) {
            dread(x, k, 0, 1);
        }
    }

    private static void dreadOfSix() {
        Due.sentence("k nightmares or more among all: a FRACTION");
        DreamShares x = Due.with("1001;1001;1001;1001;1001;1001", "");
        long[] above = {1, 63, 57, 21, 11, 7, 1};
        long[] below = {1, 64, 64, 32, 32, 64, 64};
        for (int k = 0; k <= 6; k++) {
            dread(x, k, above[k], below[k]);
        }
        for (int m = 0; m < 6; m++) {
            x.supper(m, 3);
        }
        // n 4 of 5 each
        dread(x, 6, 4096, 15625);
    }

    private static void dreadBad() {
        Due.sentence("dread: BAD");
        for (int k : Edge.outside(0, 6)) {
            Edge.bad("dread(" + k + ", 0)", x -> x.dread(k, 0), BAD_LONG);
            Edge.refused(Edge::full, "dread(" + k + ", 0) of six", x -> x.dread(k, 0), BAD_LONG, Edge.SIZE);
        }
        for (int what : Edge.outside(0, 1)) {
            Edge.bad("dread(1, " + what + ")", x -> x.dread(1, what), BAD_LONG);
        }
    }
}
