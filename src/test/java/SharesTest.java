/** Promises 17 to 23: share, leave, strike, best, menu, menuMean, dread. */
public final class SharesTest {
    public static void main(String[] args) {
        shares();
        sharesMakeTheMean();
        leavers();
        strikes();
        bestSuppers();
        menus();
        menusOfLikeOnes();
        dreads();
        refusals();
        Due.end();
    }

    private static void share(DreamShares x, int member, long above, long below) {
        Due.fraction("share(" + member + ")", x.share(member, 0), x.share(member, 1), above, below);
    }

    private static void shares() {
        // f and w make 6 together; two come with w, so whoever of them comes ahead has the more
        DreamShares x = Due.with("1000;0100;0100", "fw6");
        share(x, 0, 4, 1);
        share(x, 1, 1, 1);
        share(x, 2, 1, 1);
        DreamShares y = Due.with("0001", "f9");
        share(y, 0, -2, 1);
        DreamShares z = Due.with("1000;0001", "fn1");
        // alone 0 and -2, together -1: (0 + 1) / 2 and (-2 - 1) / 2
        share(z, 0, 1, 2);
        share(z, 1, -3, 2);
        DreamShares nothing = Due.with("1000;0100", "");
        share(nothing, 1, 0, 1);
    }

    private static void sharesMakeTheMean() {
        DreamShares x = Due.with("3214;1111;0902;2040;5005;1230", "fw8;wg6;nn3;f2;gg7;n1");
        long above = 0;
        long common = 720L * x.mean(63, 1);
        for (int m = 0; m < 6; m++) {
            Due.same("a divisor", common % x.share(m, 1), 0);
            above += x.share(m, 0) * (common / x.share(m, 1));
        }
        Due.same("all shares together", above, x.mean(63, 0) * 720L);
    }

    private static void leavers() {
        DreamShares x = Due.with("1000;0100;1000", "f3;fw9");
        Due.same("the first that gets something", x.leave(), 1);
        x.pay(0, 3);
        Due.same("just as much is not more", x.leave(), 4);
        x.pay(2, 3);
        // 0 and 1 make 9 by pay 3
        Due.same("two, the least bits", x.leave(), 3);
        x.pay(1, 5);
        Due.same("9 by 8", x.leave(), 3);
        x.pay(1, 6);
        // 0 and 1 make 9 by 9, 1 and 2 too, all three 12 by 12
        Due.same("nobody", x.leave(), -1);
        x.pay(2, 2);
        Due.same("the third alone", x.leave(), 4);
        x.pay(0, 99);
        x.pay(2, 3);
        x.pay(1, 5);
        Due.same("the last two", x.leave(), 6);
        DreamShares y = Due.with("1001", "f2");
        Due.same("0 is not more than 0", y.leave(), -1);
        y.set(1, 1);
        Due.same("a half is more than 0", y.leave(), 1);
        y.pay(0, 1);
        Due.same("a half is less than 1", y.leave(), -1);
        DreamShares three = Due.with("1000;0100;0010", "fw1;g1;fg1");
        three.pay(0, 0);
        three.pay(1, 0);
        three.pay(2, 2);
        Due.same("two together", three.leave(), 3);
        Due.same("nobody there", new DreamShares().leave(), -1);
    }

    private static void strike(DreamShares x, int bits, long above, long below) {
        Due.fraction("strike(" + bits + ")", x.strike(bits, 0), x.strike(bits, 1), above, below);
    }

    private static void strikes() {
        DreamShares x = Due.with("1001;1100", "f4;fw9");
        strike(x, 0, 0, 1);
        strike(x, 1, 9, 4);
        strike(x, 2, 13, 4);
        strike(x, 3, 17, 4);
        strike(x, 63, 17, 4);
        strike(x, 60, 0, 1);
        DreamShares y = Due.with("0001;1000", "");
        strike(y, 1, -2, 1);
    }

    private static void bestSuppers() {
        DreamShares x = Due.with("1111;1000", "g9;fw2");
        Due.same("gold", x.best(0), 2);
        x.supper(0, 3);
        Due.same("what it has now does not matter", x.best(0), 2);
        Due.same("it stays as it was", x.supper(0, 3), 3);
        x.set(0, 0);
        Due.same("without spice none", x.best(0), -1);
        DreamShares f = Due.with("1000", "f3;w3");
        Due.same("none goes ahead of like ones", f.best(0), -1);
        DreamShares n = Due.with("0001", "f3;w3");
        Due.same("of like kinds the least", n.best(0), 0);
        DreamShares close = Due.with("9100", "f2;w1");
        // 19 of 10 by none, 25 of 13 by f
        Due.same("a little better is better", close.best(0), 0);
        DreamShares bad = Due.with("1000", "");
        Due.same("a nightmare is never best", bad.best(0), -1);
        DreamShares free = Due.with("1110;1110", "nn9");
        free.set(1, 0);
        Due.same("alone it does not help", free.best(0), -1);
        free.supper(1, 3);
        Due.same("by the other's supper it does", free.best(0), 3);
    }

    private static void menus() {
        DreamShares x = Due.with("1111;1111;1111", "fw9;g1");
        int[] due = {0, 1};
        for (int m = 0; m < 2; m++) {
            Due.same("menu(2, " + m + ")", x.menu(2, m), due[m]);
        }
        Due.same("menu(1, 0)", x.menu(1, 0), 0);
        x.supper(1, 0);
        Due.same("menu(1, 0) by the other's supper", x.menu(1, 0), 1);
        Due.same("menu(2, 0) looks away from it", x.menu(2, 0), 0);
        Due.same("nothing is changed", x.supper(1, 0), 0);
        Due.same("nothing is changed", x.supper(0, -1), -1);
        DreamShares y = Due.with("1000;0100", "fw8");
        Due.fraction("menuMean(2)", y.menuMean(2, 0), y.menuMean(2, 1), 8, 1);
        Due.fraction("menuMean(1)", y.menuMean(1, 0), y.menuMean(1, 1), 8, 1);
        DreamShares z = Due.with("0001;0100", "fw8");
        // f 3 of 4: 8, else - 2
        Due.fraction("menuMean(1)", z.menuMean(1, 0), z.menuMean(1, 1), 11, 2);
        z.supper(1, 3);
        // w 1 of 4, n 3 of 4: 3 times 8, 9 times - 2, once - 2, 3 times - 4, of 16
        Due.fraction("menuMean(1)", z.menuMean(1, 0), z.menuMean(1, 1), -1, 2);
        Due.fraction("menuMean(2)", z.menuMean(2, 0), z.menuMean(2, 1), 11, 2);
    }

    private static void menusOfLikeOnes() {
        DreamShares x = Due.with("1000;0100;0010", "");
        x.set(1, 0);
        for (int m = 0; m < 3; m++) {
            Due.same("the least row", x.menu(3, m), 0);
        }
        DreamShares y = Due.with("1111;1111", "fw9");
        Due.same("f w goes ahead of w f", y.menu(2, 0), 0);
        Due.same("f w goes ahead of w f", y.menu(2, 1), 1);
    }

    private static void dread(DreamShares x, int k, long above, long below) {
        Due.fraction("dread(" + k + ")", x.dread(k, 0), x.dread(k, 1), above, below);
    }

    private static void dreads() {
        DreamShares x = Due.with("1001;1001;1110;0001", "");
        dread(x, 0, 1, 1);
        dread(x, 1, 1, 1);
        dread(x, 2, 3, 4);
        dread(x, 3, 1, 4);
        dread(x, 4, 0, 1);
        dread(x, 6, 0, 1);
        x.supper(2, 3);
        dread(x, 4, 1, 8);
        DreamShares six = Due.with("0001;0001;0001;0001;0001;1001", "");
        dread(six, 5, 1, 1);
        dread(six, 6, 1, 2);
        dread(new DreamShares(), 0, 1, 1);
        dread(new DreamShares(), 1, 0, 1);
    }

    private static void refusals() {
        DreamShares x = Due.with("1001;1001", "f1");
        for (int member : new int[] {-1, 2, 6, Integer.MAX_VALUE, Integer.MIN_VALUE}) {
            Due.same("share refused", x.share(member, 0), Due.BAD_LONG);
            Due.same("best refused", x.best(member), -2);
        }
        for (int bits : new int[] {-1, 64, Integer.MAX_VALUE, Integer.MIN_VALUE}) {
            Due.same("strike refused", x.strike(bits, 0), Due.BAD_LONG);
        }
        for (int k : new int[] {-1, 0, 3, 4, Integer.MAX_VALUE, Integer.MIN_VALUE}) {
            Due.same("menu refused", x.menu(k, 0), -2);
            Due.same("menuMean refused", x.menuMean(k, 0), Due.BAD_LONG);
        }
        for (int k : new int[] {-1, 7, Integer.MAX_VALUE, Integer.MIN_VALUE}) {
            Due.same("dread refused", x.dread(k, 0), Due.BAD_LONG);
        }
        for (int what : new int[] {-1, 2}) {
            Due.same("share what", x.share(0, what), Due.BAD_LONG);
            Due.same("strike what", x.strike(0, what), Due.BAD_LONG);
            Due.same("menuMean what", x.menuMean(1, what), Due.BAD_LONG);
            Due.same("dread what", x.dread(1, what), Due.BAD_LONG);
        }
        Due.same("menu(1, 1)", x.menu(1, 1), -2);
        Due.same("menu(2, -1)", x.menu(2, -1), -2);
        DreamShares four = Due.with("1000;1000;1000;1000", "");
        Due.same("menu(4, 0)", four.menu(4, 0), -2);
        Due.same("menuMean(4, 0)", four.menuMean(4, 0), Due.BAD_LONG);
        Due.same("menu(3, 3)", four.menu(3, 3), -2);
    }
}
