/** Promises 6 to 12: member, recipe, supper, set, pay, dreamt, read. */
public final class SettingsTest {
    private static final int[] BEYOND = {-3, -2, 6, 7, Integer.MIN_VALUE, Integer.MAX_VALUE};

    public static void main(String[] args) {
        members();
        recipes();
        suppers();
        spiceAndLoss();
        pays();
        dreams();
        reading();
        readingRefused();
        Due.end();
    }

    private static void members() {
        DreamShares x = Due.with("1234;0900", "");
        int[] weights = {1, 2, 3, 4, 0, 9, 0, 0};
        x.supper(0, 2);
        for (int i = 0; i < weights.length; i++) {
            Due.same("member(" + i / 4 + ", " + i % 4 + ")", x.member(i / 4, i % 4), weights[i]);
        }
        Due.same("member(2, 0)", x.member(2, 0), -2);
        Due.same("member(-1, 0)", x.member(-1, 0), -2);
        Due.same("member(0, 4)", x.member(0, 4), -2);
        Due.same("member(0, -1)", x.member(0, -1), -2);
        Due.same("member(max, max)", x.member(Integer.MAX_VALUE, Integer.MAX_VALUE), -2);
    }

    private static void recipes() {
        DreamShares x = Due.with("", "wn9;g1;ff4");
        int[] told = {1, 3, 9, 2, -1, 1, 0, 0, 4};
        for (int i = 0; i < told.length; i++) {
            Due.same("recipe(" + i / 3 + ", " + i % 3 + ")", x.recipe(i / 3, i % 3), told[i]);
        }
        Due.same("recipe(3, 0)", x.recipe(3, 0), -2);
        Due.same("recipe(-1, 0)", x.recipe(-1, 0), -2);
        Due.same("recipe(0, 3)", x.recipe(0, 3), -2);
        Due.same("recipe(0, -1)", x.recipe(0, -1), -2);
        Due.retype(x, 1, "w2;gn3");
        Due.same("the second kind is forgotten", x.recipe(0, 1), -1);
        Due.same("the second kind comes", x.recipe(1, 1), 3);
    }

    private static void suppers() {
        DreamShares x = Due.with("1000;1000", "");
        Due.same("supper(0, 3)", x.supper(0, 3), -1);
        Due.same("supper(0, 1)", x.supper(0, 1), 3);
        Due.same("supper(5, 2)", x.supper(5, 2), -1);
        Due.same("supper(0, 4)", x.supper(0, 4), -2);
        Due.same("supper(0, -2)", x.supper(0, -2), -2);
        for (int member : BEYOND) {
            Due.same("supper(" + member + ", 0)", x.supper(member, 0), -2);
        }
        Due.same("only those that there are", x.count(4), 1);
        Due.same("supper(0, NONE)", x.supper(0, DreamShares.NONE), 1);
        Due.same("supper(0, NONE)", x.supper(0, DreamShares.NONE), -1);
        Due.same("count(4)", x.count(4), 0);
        Due.same("supper(5, 0)", x.supper(5, 0), 2);
    }

    private static void spiceAndLoss() {
        DreamShares x = new DreamShares();
        Due.same("set(0, 0)", x.set(0, 0), 3);
        Due.same("set(0, 9)", x.set(0, 9), 0);
        Due.same("set(1, 9)", x.set(1, 9), 2);
        Due.same("set(1, 0)", x.set(1, 0), 9);
        Due.same("set(0, 10)", x.set(0, 10), -2);
        Due.same("set(0, -1)", x.set(0, -1), -2);
        Due.same("set(1, 10)", x.set(1, 10), -2);
        Due.same("set(1, -1)", x.set(1, -1), -2);
        Due.same("set(2, 1)", x.set(2, 1), -2);
        Due.same("set(-1, 1)", x.set(-1, 1), -2);
        Due.same("SPICE", x.count(6), 9);
        Due.same("LOSS", x.count(7), 0);
    }

    private static void pays() {
        DreamShares x = Due.with("1000;1000", "");
        Due.same("pay(0, 99)", x.pay(0, 99), 0);
        Due.same("pay(1, 7)", x.pay(1, 7), 0);
        Due.same("pay(5, 50)", x.pay(5, 50), 0);
        Due.same("pay(0, 100)", x.pay(0, 100), -2);
        Due.same("pay(0, -1)", x.pay(0, -1), -2);
        Due.same("pay(-1, 0)", x.pay(-1, 0), -2);
        for (int member : BEYOND) {
            Due.same("pay(" + member + ", 0)", x.pay(member, 0), -2);
        }
        Due.same("PAY of those that there are", x.count(5), 106);
        Due.same("pay(0, 0)", x.pay(0, 0), 99);
        Due.same("pay(5, 0)", x.pay(5, 0), 50);
    }

    private static void dreams() {
        DreamShares x = new DreamShares();
        Due.same("dreamt(0, 3)", x.dreamt(0, 3), -1);
        Due.same("dreamt(5, 0)", x.dreamt(5, 0), -1);
        Due.same("dreamt(0, 4)", x.dreamt(0, 4), -2);
        Due.same("dreamt(0, -2)", x.dreamt(0, -2), -2);
        Due.same("dreamt(-1, 0)", x.dreamt(-1, 0), -2);
        for (int member : BEYOND) {
            Due.same("dreamt(" + member + ", 0)", x.dreamt(member, 0), -2);
        }
        Due.same("dreamt(0, NONE)", x.dreamt(0, DreamShares.NONE), 3);
        Due.same("dreamt(0, 0)", x.dreamt(0, 0), -1);
        Due.same("dreamt(5, 1)", x.dreamt(5, 1), 0);
    }

    private static void reading() {
        DreamShares x = new DreamShares();
        x.sheet(0, 2, 8);
        for (int i = 0; i < 8; i++) {
            x.put(0, 2, i, 10 * i + 1);
        }
        Due.same("six at most", x.read(0), 6);
        for (int m = 0; m < 6; m++) {
            Due.same("pay(" + m + ", 9)", x.pay(m, 9), 10 * m + 1);
        }
        x.put(0, 2, 0, 0);
        x.put(0, 2, 1, 99);
        x.put(0, 2, 2, 100);
        Due.same("up to one above 99", x.read(0), 2);
        Due.same("pay(0, 0)", x.pay(0, 0), 0);
        Due.same("pay(1, 0)", x.pay(1, 0), 99);
        Due.same("pay(2, 0)", x.pay(2, 0), 9);
        Due.same("pay(3, 0)", x.pay(3, 0), 9);
        x.put(0, 2, 0, -1);
        Due.same("up to one below 0", x.read(0), 0);
        x.sheet(1, 0, 3);
        Due.same("so many items", x.read(1), 3);
        x.sheet(2, 1, 0);
        Due.same("no items", x.read(2), 0);
    }

    private static void readingRefused() {
        DreamShares x = new DreamShares();
        Due.same("read(4)", x.read(4), -2);
        Due.same("read(-1)", x.read(-1), -2);
        Due.same("no finding yet", x.count(8), 0);
        Due.same("read(0) of a lost one", x.read(0), -11);
        Due.same("NULL", x.count(8), 1);
    }
}
