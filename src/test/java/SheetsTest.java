/** Promises 29 to 35: sheet, lose, put, get, copy, write, count. */
public final class SheetsTest {
    private static final int LEAST = Integer.MIN_VALUE;

    public static void main(String[] args) {
        newSheets();
        losing();
        putting();
        puttingRefused();
        getting();
        copying();
        copyingRefused();
        writing();
        counting();
        Due.end();
    }

    private static void newSheets() {
        DreamShares x = new DreamShares();
        Due.same("sheet(0, 0, 48)", x.sheet(0, 0, 48), 48);
        Due.same("sheet(3, 2, 0)", x.sheet(3, 2, 0), 0);
        Due.same("sheet(0, 0, 49)", x.sheet(0, 0, 49), -2);
        Due.same("sheet(4, 0, 1)", x.sheet(4, 0, 1), -2);
        Due.same("sheet(-1, 0, 1)", x.sheet(-1, 0, 1), -2);
        Due.same("sheet(0, 3, 1)", x.sheet(0, 3, 1), -2);
        Due.same("sheet(0, -1, 1)", x.sheet(0, -1, 1), -2);
        Due.same("BAD goes ahead of SIZE", x.sheet(4, 0, -1), -2);
        Due.same("BAD goes ahead of SIZE", x.sheet(0, 3, -1), -2);
        Due.same("no finding", x.count(8), 0);
        x.put(0, 0, 47, 5);
        Due.same("sheet(0, 0, -1)", x.sheet(0, 0, -1), -15);
        Due.same("sheet(0, 0, min)", x.sheet(0, 0, LEAST), -15);
        Due.same("SIZE", x.count(8), 5);
        Due.same("it is as it was", x.get(0, 0, 47), 5);
        Due.same("sheet(0, 2, 48)", x.sheet(0, 2, 48), 48);
        Due.same("a new row has 0", x.get(0, 2, 47), 0);
    }

    private static void losing() {
        DreamShares x = new DreamShares();
        x.sheet(2, 1, 17);
        Due.same("lose(2)", x.lose(2), 17);
        Due.same("lose(2) again", x.lose(2), -11);
        Due.same("NULL", x.count(8), 1);
        Due.same("lose(4)", x.lose(4), -2);
        Due.same("lose(-1)", x.lose(-1), -2);
        Due.same("it is lost", x.put(2, 1, 0, 1), -11);
        x.sheet(2, 1, 17);
        Due.same("it is new", x.put(2, 1, 16, 1), 1);
    }

    private static void put(DreamShares x, int form, int v, int becomes) {
        Due.same("put of form " + form, x.put(form, form, 1, v), 1);
        Due.same("get of form " + form + " after " + v, x.get(form, form, 1), becomes);
    }

    private static void putting() {
        DreamShares x = new DreamShares();
        for (int form = 0; form < 3; form++) {
            x.sheet(form, form, 2);
        }
        put(x, 0, 127, 127);
        put(x, 0, 128, -128);
        put(x, 0, -129, 127);
        put(x, 0, 511, -1);
        put(x, 0, Integer.MAX_VALUE, -1);
        put(x, 1, 32767, 32767);
        put(x, 1, 32768, -32768);
        put(x, 1, -32769, 32767);
        put(x, 1, LEAST, 0);
        put(x, 2, Integer.MAX_VALUE, Integer.MAX_VALUE);
        put(x, 2, LEAST, LEAST);
        put(x, 2, -1, -1);
        Due.same("the other item", x.get(0, 0, 0), 0);
        Due.same("no finding", x.count(8), 0);
    }

    private static void puttingRefused() {
        DreamShares x = new DreamShares();
        x.sheet(0, 1, 3);
        Due.same("put(4)", x.put(4, 0, 0, 0), -2);
        Due.same("put(-1)", x.put(-1, 0, 0, 0), -2);
        Due.same("put of form 3", x.put(0, 3, 0, 0), -2);
        Due.same("put of form -1", x.put(0, -1, 0, 0), -2);
        Due.same("BAD goes ahead of NULL", x.put(1, 3, 0, 0), -2);
        Due.same("no finding", x.count(8), 0);
        Due.same("NULL goes ahead of all", x.put(1, 0, -1, 0), -11);
        Due.same("count(8)", x.count(8), 1);
        Due.same("CAST goes ahead of INDEX", x.put(0, 0, 3, 0), -13);
        Due.same("count(8)", x.count(8), 3);
        Due.same("INDEX", x.put(0, 1, 3, 0), -12);
        Due.same("count(8)", x.count(8), 2);
        Due.same("INDEX", x.put(0, 1, -1, 0), -12);
        Due.same("INDEX", x.put(0, 1, Integer.MAX_VALUE, 0), -12);
        Due.same("BAD is no finding", x.put(9, 0, 0, 0), -2);
        Due.same("count(8)", x.count(8), 2);
    }

    private static void get(DreamShares x, int s, int form, int i, int finding) {
        Due.same("get refused", x.get(s, form, i), LEAST);
        Due.same("finding of get", x.count(8), finding);
    }

    private static void getting() {
        DreamShares x = new DreamShares();
        x.sheet(0, 2, 3);
        get(x, 4, 2, 0, 0);
        get(x, -1, 2, 0, 0);
        get(x, 0, 3, 0, 0);
        get(x, 0, -1, 0, 0);
        get(x, 1, 2, 0, 1);
        get(x, 0, 1, 3, 3);
        get(x, 0, 2, 3, 2);
        get(x, 1, 0, 5, 1);
        get(x, 0, 2, -1, 2);
        x.put(0, 2, 2, 77);
        Due.same("get(0, 2, 2)", x.get(0, 2, 2), 77);
        Due.same("the latest stays", x.count(8), 2);
    }

    private static void fill(DreamShares x, int s, int form, int n) {
        x.sheet(s, form, n);
        for (int i = 0; i < n; i++) {
            x.put(s, form, i, i + 1);
        }
    }

    private static void items(DreamShares x, int s, int form, int... want) {
        for (int i = 0; i < want.length; i++) {
            Due.same("item " + i + " of sheet " + s, x.get(s, form, i), want[i]);
        }
    }

    private static void copying() {
        DreamShares x = new DreamShares();
        fill(x, 0, 1, 5);
        x.sheet(1, 1, 4);
        Due.same("copy", x.copy(0, 2, 1, 1, 3), 1);
        items(x, 1, 1, 0, 3, 4, 5);
        items(x, 0, 1, 1, 2, 3, 4, 5);
        Due.same("copy to itself, upwards", x.copy(0, 0, 0, 1, 4), 1);
        items(x, 0, 1, 1, 1, 2, 3, 4);
        Due.same("copy to itself, downwards", x.copy(0, 1, 0, 0, 4), 1);
        items(x, 0, 1, 1, 2, 3, 4, 4);
        Due.same("none from the end", x.copy(0, 5, 1, 4, 0), 1);
        Due.same("all", x.copy(1, 0, 0, 0, 4), 1);
        items(x, 0, 1, 0, 3, 4, 5, 4);
        Due.same("no finding", x.count(8), 0);
    }

    private static void copyingRefused() {
        DreamShares x = new DreamShares();
        fill(x, 0, 1, 5);
        x.sheet(1, 2, 4);
        x.sheet(2, 1, 4);
        Due.same("copy(4)", x.copy(4, 0, 0, 0, 0), -2);
        Due.same("copy to -1", x.copy(0, 0, -1, 0, 0), -2);
        Due.same("BAD goes ahead of NULL", x.copy(3, 0, 4, 0, 0), -2);
        Due.same("no finding", x.count(8), 0);
        Due.same("NULL s", x.copy(3, -1, 0, 0, 0), -11);
        Due.same("NULL t", x.copy(0, -1, 3, 0, 0), -11);
        Due.same("count(8)", x.count(8), 1);
        Due.same("STORE goes ahead of INDEX", x.copy(0, -1, 1, 0, 1), -14);
        Due.same("count(8)", x.count(8), 4);
        int[][] asked = {{-1, 0, 1}, {0, -1, 1}, {0, 0, -1}, {5, 0, 1}, {0, 4, 1}, {2, 0, 4}, {0, 1, 4}, {6, 0, 0},
            {0, 5, 0}, {Integer.MAX_VALUE, 0, 1}, {0, Integer.MAX_VALUE, 1}, {1, 0, Integer.MAX_VALUE},
            {Integer.MAX_VALUE, 0, Integer.MAX_VALUE}, {Integer.MIN_VALUE, 0, Integer.MIN_VALUE}};
        for (int[] a : asked) {
            Due.same("INDEX", x.copy(0, a[0], 2, a[1], a[2]), -12);
        }
        Due.same("count(8)", x.count(8), 2);
        items(x, 2, 1, 0, 0, 0, 0);
    }

    private static void writing() {
        DreamShares x = Due.with("3214;1111;0902", "fw8;wg6;nn3");
        x.set(1, 6);
        x.sheet(1, 1, 48);
        Due.same("write", x.write(5, 1), 48);
        int together = 0;
        for (int i = 0; i < 48; i++) {
            together += x.get(1, 1, i);
            Due.same("a week of " + (i + 1), x.week(5, i + 1, 0), together);
        }
        x.sheet(0, 0, 0);
        Due.same("write to no items", x.write(5, 0), 0);
        x.sheet(0, 0, 2);
        Due.same("write to two", x.write(5, 0), 2);
        items(x, 0, 0, x.get(1, 1, 0), x.get(1, 1, 1));
        Due.same("write(1, 4)", x.write(1, 4), -2);
        Due.same("write(1, -1)", x.write(1, -1), -2);
        Due.same("no finding", x.count(8), 0);
        Due.same("write to a lost one", x.write(1, 2), -11);
        Due.same("count(8)", x.count(8), 1);
    }

    private static void counting() {
        DreamShares x = Due.with("1000;0100;0010", "f1;w2");
        x.supper(0, 1);
        x.supper(2, 0);
        x.supper(3, 0);
        x.pay(0, 10);
        x.pay(2, 20);
        x.pay(3, 40);
        x.set(0, 8);
        x.set(1, 7);
        x.lose(0);
        int[] want = {3, 2, 14, 5, 2, 30, 8, 7, 1};
        for (int what = 0; what < want.length; what++) {
            Due.same("count(" + what + ")", x.count(what), want[what]);
        }
        Due.same("count(9)", x.count(9), -2);
        Due.same("count(-1)", x.count(-1), -2);
        Due.same("count(min)", x.count(LEAST), -2);
    }
}
