/** The edges that promises 29 to 36 name: sheet, lose, put, get, copy, write, count, digest. */
public final class SheetsEdgesTest {
    private static final int LEAST = Edge.LEAST, MOST = Edge.MOST;

    public static void main(String[] args) {
        sheetIsANewRow();
        sheetBad();
        sheetSize();
        loseTells();
        loseRefused();
        putKeepsTheLowestBits();
        putFirstAndLast();
        putBad();
        putFindings();
        getItem();
        getBad();
        getFindings();
        copyAsTheyWere();
        copyOfNone();
        copyToTheEnds();
        copyBad();
        copyNull();
        copyStore();
        copyIndex();
        copyIndexOfNone();
        writeAsManyAsItems();
        writeRefused();
        countEach();
        countOfThoseThatThereAre();
        countBytesOfTexts();
        countLatestFinding();
        countBad();
        digestOfNobody();
        digestAsItIsTold();
        digestWraps();
        Due.end();
    }

    private static void sheetIsANewRow() {
        Due.sentence("A SHEET is a new row of a FORM with n items: n");
        for (int s = 0; s < 4; s++) {
            DreamShares x = Edge.busy();
            Due.same("no items", x.sheet(s, 2, 0), 0);
            Due.same("all items", x.sheet(s, 0, 48), 48);
            Due.same("the last item", x.put(s, 0, 47, 7), 1);
            Due.same("none behind it", x.put(s, 0, 48, 7), -12);
            Due.same("anew, of another FORM", x.sheet(s, 2, 48), 48);
            Due.same("the last item is new", x.get(s, 2, 47), 0);
            Due.same("the old FORM", x.put(s, 0, 47, 7), -13);
            x.put(s, 2, 1, 9);
            Due.same("fewer", x.sheet(s, 2, 2), 2);
            Due.same("a new row", x.get(s, 2, 1), 0);
            Due.same("none behind it", x.put(s, 2, 2, 7), -12);
        }
    }

    private static void sheetBad() {
        Due.sentence("sheet: BAD: SHEET, FORM, above 48");
        for (int s : Edge.outside(0, 3)) {
            Edge.bad("sheet(" + s + ", 0, 1)", x -> x.sheet(s, 0, 1), -2);
        }
        for (int form : Edge.outside(0, 2)) {
            Edge.bad("sheet(0, " + form + ", 1)", x -> x.sheet(0, form, 1), -2);
        }
        Edge.bad("sheet(0, 1, 49)", x -> x.sheet(0, 1, 49), -2);
        Edge.bad("sheet(3, 1, 49)", x -> x.sheet(3, 1, 49), -2);
        Edge.bad("sheet(0, 1, most)", x -> x.sheet(0, 1, MOST), -2);
    }

    private static void sheetSize() {
        Due.sentence("sheet: SIZE: below 0");
        Edge.found("sheet(0, 0, -1)", x -> x.sheet(0, 0, -1), -15, Edge.SIZE);
        Edge.found("sheet(0, 1, -49)", x -> x.sheet(0, 1, -49), -15, Edge.SIZE);
        Edge.found("sheet(0, 2, least)", x -> x.sheet(0, 2, LEAST), -15, Edge.SIZE);
        Edge.found("sheet(3, 0, -1)", x -> x.sheet(3, 0, -1), -15, Edge.SIZE);
    }

    private static void loseTells() {
        Due.sentence("It is LOST: how many items it had");
        for (int s = 0; s < 4; s++) {
            DreamShares x = new DreamShares();
            x.sheet(s, 1, 48);
            Due.same("48", x.lose(s), 48);
            x.sheet(s, 1, 0);
            Due.same("0", x.lose(s), 0);
            Due.same("no finding", x.count(8), 0);
            Due.same("it is LOST", x.put(s, 1, 0, 1), -11);
        }
        DreamShares x = Edge.busy();
        x.lose(1);
        Due.same("the others stay", x.lose(0), 5);
        Due.same("the others stay", x.lose(2), 4);
    }

    private static void loseRefused() {
        Due.sentence("lose: BAD; NULL");
        for (int s : Edge.outside(0, 3)) {
            Edge.bad("lose(" + s + ")", x -> x.lose(s), -2);
        }
        Edge.found("lose(3)", x -> x.lose(3), -11, Edge.NULL);
        DreamShares y = Edge.busy();
        y.lose(0);
        Due.same("twice", y.lose(0), -11);
    }

    private static void putAndGet(int form, int v, int becomes) {
        DreamShares x = new DreamShares();
        x.sheet(1, form, 3);
        Due.same("put", x.put(1, form, 1, v), 1);
        Due.same(v + " in form " + form, x.get(1, form, 1), becomes);
        Due.same("the one ahead", x.get(1, form, 0), 0);
        Due.same("the one behind", x.get(1, form, 2), 0);
    }

    private static void putKeepsTheLowestBits() {
        Due.sentence("becomes v (the lowest bits that it has, with its sign");
        int[] bytes = {127, 127, 128, -128, 255, -1, 256, 0, -128, -128, -129, 127, -256, 0, MOST, -1, LEAST, 0};
        for (int i = 0; i < bytes.length; i += 2) {
            putAndGet(0, bytes[i], bytes[i + 1]);
        }
        int[] shorts = {32767, 32767, 32768, -32768, 65535, -1, 65536, 0, -32768, -32768, -32769, 32767, MOST, -1, LEAST, 0,
            128, 128, -129, -129};
        for (int i = 0; i < shorts.length; i += 2) {
            putAndGet(1, shorts[i], shorts[i + 1]);
        }
        for (int v : new int[] {MOST, LEAST, -1, 0, 32768, 65536, -32769}) {
            putAndGet(2, v, v);
        }
    }

    private static void putFirstAndLast() {
        Due.sentence("Item i, treated as of a FORM, becomes v: 1");
        DreamShares x = new DreamShares();
        x.sheet(3, 2, 48);
        Due.same("the first", x.put(3, 2, 0, 8), 1);
        Due.same("the last", x.put(3, 2, 47, 9), 1);
        Due.same("the first", x.get(3, 2, 0), 8);
        Due.same("the last", x.get(3, 2, 47), 9);
        Due.same("one between", x.get(3, 2, 24), 0);
    }

    private static void putBad() {
        Due.sentence("put: BAD");
        for (int s : Edge.outside(0, 3)) {
            Edge.bad("put(" + s + ", 1, 0, 9)", x -> x.put(s, 1, 0, 9), -2);
        }
        for (int form : Edge.outside(0, 2)) {
            Edge.bad("put(0, " + form + ", 0, 9)", x -> x.put(0, form, 0, 9), -2);
        }
    }

    private static void putFindings() {
        Due.sentence("put: NULL; CAST; INDEX");
        Edge.found("put to a LOST one", x -> x.put(3, 1, 0, 9), -11, Edge.NULL);
        Edge.found("put of bytes to shorts", x -> x.put(0, 0, 0, 9), -13, Edge.CAST);
        Edge.found("put of ints to shorts", x -> x.put(0, 2, 0, 9), -13, Edge.CAST);
        Edge.found("put of shorts to ints", x -> x.put(1, 1, 0, 9), -13, Edge.CAST);
        for (int i : Edge.outside(0, 4)) {
            Edge.found("put(0, 1, " + i + ", 9)", x -> x.put(0, 1, i, 9), -12, Edge.INDEX);
        }
        DreamShares x = new DreamShares();
        x.sheet(0, 0, 0);
        Due.same("the first of none", x.put(0, 0, 0, 1), -12);
    }

    private static void getItem() {
        Due.sentence("Item i of it");
        DreamShares x = Edge.busy();
        Due.same("the first", x.get(0, 1, 0), 1);
        Due.same("the last", x.get(0, 1, 4), 5);
        x.put(1, 2, 0, LEAST);
        Due.same("the least int itself", x.get(1, 2, 0), LEAST);
        Due.same("is no FINDING", x.count(8), Edge.SIZE);
    }

    private static void getBad() {
        Due.sentence("get: BAD: the least int");
        for (int s : Edge.outside(0, 3)) {
            Edge.bad("get(" + s + ", 1, 0)", x -> x.get(s, 1, 0), LEAST);
        }
        for (int form : Edge.outside(0, 2)) {
            Edge.bad("get(0, " + form + ", 0)", x -> x.get(0, form, 0), LEAST);
        }
    }

    private static void getFindings() {
        Due.sentence("get: so are NULL, CAST, INDEX (count() 8 tells)");
        Edge.found("get of a LOST one", x -> x.get(3, 1, 0), LEAST, Edge.NULL);
        Edge.found("get of bytes from shorts", x -> x.get(0, 0, 0), LEAST, Edge.CAST);
        Edge.found("get of ints from shorts", x -> x.get(0, 2, 0), LEAST, Edge.CAST);
        for (int i : Edge.outside(0, 4)) {
            Edge.found("get(0, 1, " + i + ")", x -> x.get(0, 1, i), LEAST, Edge.INDEX);
        }
        DreamShares x = new DreamShares();
        x.sheet(0, 0, 0);
        Due.same("the first of none", x.get(0, 0, 0), LEAST);
        Due.same("INDEX", x.count(8), Edge.INDEX);
    }

    private static void items(DreamShares x, int s, int form, int... want) {
        for (int i = 0; i < want.length; i++) {
            Due.same("item " + i + " of sheet " + s, x.get(s, form, i), want[i]);
        }
    }

    private static void copyAsTheyWere() {
        Due.sentence("n items of SHEET s, from i on, come to SHEET t (perhaps s, as they were), from j on: 1");
        DreamShares up = Edge.busy();
        Due.same("upwards", up.copy(0, 0, 0, 1, 4), 1);
        items(up, 0, 1, 1, 1, 2, 3, 4);
        DreamShares down = Edge.busy();
        Due.same("downwards", down.copy(0, 1, 0, 0, 4), 1);
        items(down, 0, 1, 2, 3, 4, 5, 5);
        DreamShares same = Edge.busy();
        Due.same("to where they are", same.copy(0, 0, 0, 0, 5), 1);
        items(same, 0, 1, 1, 2, 3, 4, 5);
        DreamShares other = Edge.busy();
        Due.same("to another", other.copy(0, 3, 2, 1, 2), 1);
        items(other, 2, 1, 21, 4, 5, 24);
        items(other, 0, 1, 1, 2, 3, 4, 5);
    }

    private static void copyOfNone() {
        Due.sentence("copy: of n 0");
        Edge.refused(Edge::busy, "none from the first to the first", x -> x.copy(0, 0, 2, 0, 0), 1, Edge.SIZE);
        Edge.refused(Edge::busy, "none from the end to the end", x -> x.copy(0, 5, 2, 4, 0), 1, Edge.SIZE);
        DreamShares x = new DreamShares();
        x.sheet(0, 0, 0);
        Due.same("none of none", x.copy(0, 0, 0, 0, 0), 1);
        Due.same("one of none", x.copy(0, 0, 0, 0, 1), -12);
    }

    private static void copyToTheEnds() {
        Due.sentence("copy: not so many there (just so many are)");
        DreamShares x = new DreamShares();
        Edge.fillSheet(x, 0, 0, 48);
        x.sheet(1, 0, 48);
        Due.same("all", x.copy(0, 0, 1, 0, 48), 1);
        Due.same("the last of all", x.get(1, 0, 47), 48);
        Due.same("the last to the first", x.copy(0, 47, 1, 0, 1), 1);
        Due.same("the first", x.get(1, 0, 0), 48);
        Due.same("the first to the last", x.copy(0, 0, 1, 47, 1), 1);
        Due.same("the last", x.get(1, 0, 47), 1);
        Due.same("one too many", x.copy(0, 0, 1, 0, 49), -12);
        Due.same("one too far in s", x.copy(0, 1, 1, 0, 48), -12);
        Due.same("one too far in t", x.copy(0, 0, 1, 1, 48), -12);
    }

    private static void copyBad() {
        Due.sentence("copy: BAD: the SHEETS");
        for (int s : Edge.outside(0, 3)) {
            Edge.bad("copy from " + s, x -> x.copy(s, 0, 0, 0, 1), -2);
            Edge.bad("copy to " + s, x -> x.copy(0, 0, s, 0, 1), -2);
            Edge.bad("copy from and to " + s, x -> x.copy(s, -1, s, -1, -1), -2);
        }
    }

    private static void copyNull() {
        Due.sentence("copy: NULL: s, t");
        Edge.found("s is LOST", x -> x.copy(3, 0, 0, 0, 0), -11, Edge.NULL);
        Edge.found("t is LOST", x -> x.copy(0, 0, 3, 0, 0), -11, Edge.NULL);
        Edge.found("both are LOST", x -> x.copy(3, 0, 3, 0, 0), -11, Edge.NULL);
    }

    private static void copyStore() {
        Due.sentence("copy: STORE: unlike FORMS");
        Edge.found("shorts to ints", x -> x.copy(0, 0, 1, 0, 1), -14, Edge.STORE);
        Edge.found("ints to shorts", x -> x.copy(1, 0, 0, 0, 1), -14, Edge.STORE);
        Edge.found("also none", x -> x.copy(0, 0, 1, 0, 0), -14, Edge.STORE);
        DreamShares x = Edge.busy();
        x.sheet(3, 0, 5);
        Due.same("bytes to shorts", x.copy(3, 0, 0, 0, 1), -14);
        Due.same("shorts to bytes", x.copy(0, 0, 3, 0, 1), -14);
    }

    /** Sheet 0 has five items, sheet 2 has four. */
    private static void copyIndex() {
        Due.sentence("copy: INDEX: i, j or n below 0, not so many there");
        int[][] asked = {{-1, 0, 1}, {LEAST, 0, 1}, {0, -1, 1}, {0, LEAST, 1}, {0, 0, -1}, {0, 0, LEAST}, {5, 0, 1},
            {0, 4, 1}, {4, 0, 2}, {0, 3, 2}, {0, 0, 5}, {2, 0, 4}, {0, 1, 4}, {MOST, 0, 1}, {0, MOST, 1}, {0, 0, MOST},
            {1, 0, MOST}, {MOST, MOST, MOST}, {MOST, 0, LEAST}, {LEAST, LEAST, LEAST}, {1, 1, -1}};
        for (int[] a : asked) {
            String name = "copy(0, " + a[0] + ", 2, " + a[1] + ", " + a[2] + ")";
            Edge.found(name, x -> x.copy(0, a[0], 2, a[1], a[2]), -12, Edge.INDEX);
        }
    }

    private static void copyIndexOfNone() {
        Due.sentence("copy: of n 0, too: i or j above the size");
        int[][] asked = {{6, 0}, {0, 5}, {MOST, 0}, {0, MOST}, {-1, 0}, {0, -1}, {LEAST, 0}, {0, LEAST}};
        for (int[] a : asked) {
            String name = "copy(0, " + a[0] + ", 2, " + a[1] + ", 0)";
            Edge.found(name, x -> x.copy(0, a[0], 2, a[1], 0), -12, Edge.INDEX);
        }
    }

    private static void writeAsManyAsItems() {
        Due.sentence("WORTH of each night of a WEEK ..., as many nights as there are items: how many");
        for (int form = 0; form < 3; form++) {
            DreamShares x = Due.with("0001;0001;0001;0001;0001;0001", "");
            x.set(1, 9);
            for (int n : new int[] {0, 1, 48}) {
                x.sheet(1, form, n);
                Due.same("write to " + n, x.write(Edge.LEAST, 1), n);
                for (int i = 0; i < n; i++) {
                    Due.same("item " + i, x.get(1, form, i), -54);
                }
            }
            Due.same("no finding", x.count(8), 0);
        }
        DreamShares nobody = Edge.busy();
        nobody.wipe(0);
        Due.same("of nobody", nobody.write(1, 0), 5);
        items(nobody, 0, 1, 0, 0, 0, 0, 0);
        items(nobody, 2, 1, 21, 22, 23, 24);
    }

    private static void writeRefused() {
        Due.sentence("write: BAD; NULL");
        for (int s : Edge.outside(0, 3)) {
            Edge.bad("write(5, " + s + ")", x -> x.write(5, s), -2);
        }
        Edge.found("write(5, 3)", x -> x.write(5, 3), -11, Edge.NULL);
    }

    private static void countEach() {
        Due.sentence("0 MEMBERS, 1 RECIPES, 2, 3 bytes of texts, ... 6 SPICE, 7 LOSS, 8 the number of the latest FINDING");
        DreamShares x = Edge.busy();
        int[] want = {3, 3, 14, 10, 3, 1 + 11 + 21, 4, 5, Edge.SIZE};
        for (int what = 0; what < want.length; what++) {
            Due.same("count(" + what + ")", x.count(what), want[what]);
        }
    }

    private static void countOfThoseThatThereAre() {
        Due.sentence("4 MEMBERS (that there are) with a SUPPER, 5 PAY of all that there are");
        DreamShares x = new DreamShares();
        for (int m = 0; m < 6; m++) {
            x.supper(m, 0);
            x.pay(m, 99);
        }
        for (int i = 0; i < 29; i++) {
            boolean isWell = i == 0 || i % 5 == 4;
            Due.same("suppers by " + i + " bytes", x.count(4), isWell ? (i + 1) / 5 : 0);
            Due.same("pay by " + i + " bytes", x.count(5), isWell ? 99 * ((i + 1) / 5) : 0);
            x.type(0, Edge.FULL_MEMBERS.charAt(i));
        }
        Due.same("all suppers", x.count(4), 6);
        Due.same("all pay", x.count(5), 594);
        x.supper(5, DreamShares.NONE);
        x.supper(0, 3);
        Due.same("five suppers", x.count(4), 5);
    }

    private static void countBytesOfTexts() {
        Due.sentence("2, 3 bytes of texts");
        DreamShares x = Edge.full();
        Due.same("full", x.count(2), 29);
        Due.same("full, with a FAULT", x.count(3), 29);
        x.wipe(0);
        x.wipe(1);
        Due.same("empty", x.count(2), 0);
        Due.same("empty", x.count(3), 0);
    }

    private static void countLatestFinding() {
        Due.sentence("8 the number of the latest FINDING (0 before any)");
        DreamShares x = new DreamShares();
        Due.same("before any", x.count(8), 0);
        x.type(2, 0);
        x.undo(0);
        x.sheet(0, 0, 49);
        x.get(4, 0, 0);
        Due.same("BAD and NOT are none", x.count(8), 0);
        x.get(0, 0, 0);
        Due.same("NULL", x.count(8), 1);
        x.sheet(0, 1, 3);
        Due.same("it stays", x.count(8), 1);
        x.get(0, 1, 3);
        Due.same("INDEX", x.count(8), 2);
        x.get(0, 0, 3);
        Due.same("CAST", x.count(8), 3);
        x.sheet(1, 0, 3);
        x.copy(0, 0, 1, 0, 0);
        Due.same("STORE", x.count(8), 4);
        x.sheet(1, 0, -1);
        Due.same("SIZE", x.count(8), 5);
        x.lose(2);
        Due.same("NULL again", x.count(8), 1);
        x.digest();
        Due.same("digest() finds nothing", x.count(8), 1);
    }

    private static void countBad() {
        Due.sentence("count: BAD");
        for (int what : Edge.outside(0, 8)) {
            Edge.bad("count(" + what + ")", x -> x.count(what), -2);
        }
    }

    private static long mixed(long... told) {
        long h = 17;
        for (long v : told) {
            h = 31 * h + v;
        }
        return h;
    }

    private static void digestOfNobody() {
        Due.sentence("h is 17; h becomes 31 h and each of (of each thing all that is told of it, then of the next one)");
        long bad = Due.BAD_LONG;
        long want = mixed(0, 0, 0, 0, 0, 0, 3, 2, -1, -1, -2, -12, 0, 1, -1, 0, 1, -2, bad, bad, 0, 1, 0, 0, 0, -1);
        Due.same("digest()", new DreamShares().digest(), want);
    }

    private static void digestAsItIsTold() {
        Due.sentence("menu(1, 0) (as it is told), menuMean(2), above, below (as it is told)");
        // one member that dreams f alone, one recipe f5; menus of one are there, those of two are not
        long bad = Due.BAD_LONG;
        long want = mixed(1, 1, 4, 2, 0, 0, 3, 2, -1, -1,
            1, 0, 0, 0, 1, 1, 5, 1, 5, 1, -1, 0,
            0, -1, 5, 2,
            10 - 2, -12, 5, 1, 1, 5, 1, 0, bad, bad, 0, 1, 0, 0, 45, -1);
        Due.same("digest()", Due.with("1000", "f5").digest(), want);
        // a text with a FAULT: its bytes and its FAULT are told, and nobody
        long faulty = mixed(0, 0, 5, 2, 0, 0, 3, 2, 5, 1, -2, -12, 0, 1, -1, 0, 1, -2, bad, bad, 0, 1, 0, 0, 0, -1);
        Due.same("digest() by a FAULT", Due.with("1000;", "f0").digest(), faulty);
    }

    private static void digestWraps() {
        Due.sentence("digest: as longs that wrap");
        // three that dream f, w, g: may and rows of 1, 1, 1, 0 are told; kept of 1, 1, 0, 0 is the third
        DreamShares x = Due.with("1000;0100;0010", "g4");
        x.dreamt(0, 0);
        x.dreamt(1, 1);
        x.dreamt(2, 2);
        long want = mixed(3, 1, 14, 2, 0, 0, 3, 2, -1, -1,
            1, 0, 0, 0, 1, 1, 0, 1, 0, 1, 2, 1,
            0, 1, 0, 0, 0, 1, 0, 1, 0, 1, 2, 2,
            0, 0, 1, 0, 0, 1, 4, 1, 4, 1, -1, 4,
            2, -1, 4, 1,
            4 - 2, -12, 4, 1, 4, 0, 1, 2, 10, 1, 0, 1, 1, 4, 36, -1);
        Due.same("digest()", x.digest(), want);
    }
}
