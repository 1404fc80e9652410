/** The edges that promises 1 to 12 name: one test for each sentence. */
public final class SettingsEdgesTest {
    public static void main(String[] args) {
        newObject();
        typeBytes();
        typeBad();
        typeFull();
        wipeTells();
        wipeBad();
        undoTells();
        undoBad();
        undoOfNone();
        faultNone();
        faultBad();
        memberAsTold();
        memberBad();
        recipeTells();
        recipeSecondIsNone();
        recipeBad();
        supperSeats();
        supperBad();
        setTells();
        setBad();
        payRange();
        payBad();
        dreamtRange();
        dreamtBad();
        readSixAtMost();
        readUpToTheFirst();
        readFewItems();
        readRefused();
        Due.end();
    }

    private static void newObject() {
        Due.sentence("Nobody, no RECIPES; all SHEETS are LOST");
        DreamShares x = new DreamShares();
        int[] counts = {0, 0, 0, 0, 0, 0, 3, 2, 0};
        for (int what = 0; what < counts.length; what++) {
            Due.same("count(" + what + ")", x.count(what), counts[what]);
        }
        Due.same("nobody to tell of", x.member(0, 0), -2);
        Due.same("no recipe to tell of", x.recipe(0, 0), -2);
        Due.same("nothing is made", x.worth(1, 1, 1, 0), 0);
        for (int s = 0; s < 4; s++) {
            Due.same("read(" + s + ")", x.read(s), -11);
            Due.same("lose(" + s + ")", x.lose(s), -11);
            Due.same("write(1, " + s + ")", x.write(1, s), -11);
        }
    }

    private static void typeBytes() {
        Due.sentence("A byte (0 to 255) comes behind a text: how many");
        DreamShares x = new DreamShares();
        Due.same("the least byte", x.type(0, 0), 1);
        Due.same("the greatest byte", x.type(0, 255), 2);
        Due.same("the other text", x.type(1, 255), 1);
        Due.same("the other text", x.type(1, 0), 2);
        Due.same("bytes", x.count(2), 2);
        Due.same("bytes of the other", x.count(3), 2);
        DreamShares y = Due.with("123", "");
        y.type(0, 4 + '0');
        Due.same("behind, not ahead", y.member(0, 3), 4);
    }

    private static void typeBad() {
        Due.sentence("type: BAD");
        for (int text : Edge.outside(0, 1)) {
            Edge.bad("type(" + text + ", 49)", x -> x.type(text, 49), -2);
        }
        for (int b : Edge.outside(0, 255)) {
            Edge.bad("type(0, " + b + ")", x -> x.type(0, b), -2);
            Edge.bad("type(1, " + b + ")", x -> x.type(1, b), -2);
        }
        Edge.bad("a byte by its lowest bits", x -> x.type(0, 256 + ';'), -2);
        Edge.bad("a byte with its sign", x -> x.type(0, -128), -2);
    }

    private static void typeFull() {
        Due.sentence("type: FULL");
        for (int text = 0; text < 2; text++) {
            int to = text;
            Edge.refused(Edge::full, "a thirtieth byte", x -> x.type(to, 59), -4, Edge.SIZE);
            Edge.refused(Edge::full, "a thirtieth byte", x -> x.type(to, 0), -4, Edge.SIZE);
            DreamShares x = Edge.full();
            x.undo(text);
            Due.same("a byte when there is room again", x.type(text, '7'), 29);
            Due.same("full again", x.type(text, '7'), -4);
        }
    }

    private static void wipeTells() {
        Due.sentence("A text is empty: how many bytes it had");
        DreamShares x = Edge.full();
        Due.same("wipe(0) of a full one", x.wipe(0), 29);
        Due.same("members", x.count(0) + x.count(2), 0);
        Due.same("the other stays", x.count(3), 29);
        Due.same("wipe(1) of a full one", x.wipe(1), 29);
        Due.same("recipes", x.count(1) + x.count(3), 0);
        Due.same("wipe(0) of an empty one", x.wipe(0), 0);
        Due.same("wipe(1) of an empty one", x.wipe(1), 0);
        Due.same("room again", x.type(0, '1'), 1);
        Due.same("of one with a FAULT", x.wipe(0), 1);
        DreamShares again = Edge.busy();
        Due.retype(again, 0, Edge.BUSY_MEMBERS);
        Due.retype(again, 1, Edge.BUSY_RECIPES);
        Edge.unchanged("wipe and the same bytes again", again, Edge.busy());
    }

    private static void wipeBad() {
        Due.sentence("wipe: BAD");
        for (int text : Edge.outside(0, 1)) {
            Edge.bad("wipe(" + text + ")", x -> x.wipe(text), -2);
        }
    }

    private static void undoTells() {
        Due.sentence("The last byte of a text is undone: how many are left");
        for (int text = 0; text < 2; text++) {
            DreamShares x = Edge.full();
            for (int left = 28; left >= 0; left--) {
                Due.same("undo(" + text + ")", x.undo(text), left);
                Due.same("left", x.count(2 + text), left);
            }
        }
        DreamShares y = Due.with("1234;567", "f5;");
        y.undo(1);
        Due.same("the recipe is well again", y.recipe(0, 2), 5);
        for (int i = 0; i < 4; i++) {
            y.undo(0);
        }
        Due.same("the first member is well again", y.count(0), 1);
        DreamShares again = Edge.busy();
        for (int i = 0; i < 9; i++) {
            again.undo(0);
            again.undo(1);
        }
        Due.type(again, 0, Edge.BUSY_MEMBERS.substring(Edge.BUSY_MEMBERS.length() - 9));
        Due.type(again, 1, Edge.BUSY_RECIPES.substring(Edge.BUSY_RECIPES.length() - 9));
        Edge.unchanged("undo and the same bytes again", again, Edge.busy());
    }

    private static void undoBad() {
        Due.sentence("undo: BAD");
        for (int text : Edge.outside(0, 1)) {
            Edge.bad("undo(" + text + ")", x -> x.undo(text), -2);
        }
    }

    private static void undoOfNone() {
        Due.sentence("undo: NOT: it is empty");
        for (int text = 0; text < 2; text++) {
            int of = text;
            Edge.refused(DreamShares::new, "undo(" + text + ")", x -> x.undo(of), -3, 0);
            DreamShares y = Edge.busy();
            y.wipe(text);
            Due.same("after wipe", y.undo(text), -3);
            y.type(text, 'x');
            Due.same("the only one", y.undo(text), 0);
            Due.same("after the only one", y.undo(text), -3);
            Due.same("the first byte again", y.type(text, '1'), 1);
        }
    }

    private static void faultNone() {
        Due.sentence("The FAULT of a text; NONE");
        DreamShares x = Due.with("x", "f1");
        Due.same("the first place", x.fault(0), 0);
        Due.same("none", x.fault(1), -1);
        DreamShares y = Edge.full();
        Due.same("none of a full one", y.fault(0), -1);
        Due.same("of a full one", y.fault(1), 24);
        Due.retype(y, 0, "1000;0100;0010;0001;1111;000x");
        Due.same("the last place", y.fault(0), 28);
    }

    private static void faultBad() {
        Due.sentence("fault: BAD");
        for (int text : Edge.outside(0, 1)) {
            Edge.bad("fault(" + text + ")", x -> x.fault(text), -2);
        }
    }

    private static void memberAsTold() {
        Due.sentence("WEIGHT of a KIND (0 to 3), as told");
        DreamShares x = Due.with("0090;9000", "");
        x.set(0, 9);
        for (int m = 0; m < 2; m++) {
            x.supper(m, 0);
            for (int kind = 0; kind < 4; kind++) {
                boolean isTold = m == 0 ? kind == 2 : kind == 0;
                Due.same("member(" + m + ", " + kind + ")", x.member(m, kind), isTold ? 9 : 0);
            }
        }
    }

    private static void memberBad() {
        Due.sentence("member: BAD");
        for (int member : Edge.outside(0, 2)) {
            Edge.bad("member(" + member + ", 0)", x -> x.member(member, 0), -2);
        }
        for (int kind : Edge.outside(0, 3)) {
            Edge.bad("member(0, " + kind + ")", x -> x.member(0, kind), -2);
            Edge.bad("member(2, " + kind + ")", x -> x.member(2, kind), -2);
        }
        Edge.bad("a seat without a member", x -> x.member(5, 0), -2);
        Edge.refused(Edge::full, "a seventh", x -> x.member(6, 0), -2, Edge.SIZE);
    }

    private static void recipeTells() {
        Due.sentence("The first KIND (what = 0), the second one (1; ...), PRICE (2)");
        DreamShares x = Due.with("", "fn9;nf1;ww5");
        int[] told = {0, 3, 9, 3, 0, 1, 1, 1, 5};
        for (int i = 0; i < told.length; i++) {
            Due.same("recipe(" + i / 3 + ", " + i % 3 + ")", x.recipe(i / 3, i % 3), told[i]);
        }
    }

    private static void recipeSecondIsNone() {
        Due.sentence("the second one (1; NONE)");
        DreamShares x = Due.with("", "f1;nn1;n9");
        Due.same("recipe(0, 1)", x.recipe(0, 1), -1);
        Due.same("recipe(1, 1)", x.recipe(1, 1), 3);
        Due.same("recipe(2, 1)", x.recipe(2, 1), -1);
    }

    private static void recipeBad() {
        Due.sentence("recipe: BAD");
        for (int recipe : Edge.outside(0, 2)) {
            Edge.bad("recipe(" + recipe + ", 0)", x -> x.recipe(recipe, 0), -2);
        }
        for (int what : Edge.outside(0, 2)) {
            Edge.bad("recipe(0, " + what + ")", x -> x.recipe(0, what), -2);
            Edge.bad("recipe(2, " + what + ")", x -> x.recipe(2, what), -2);
        }
        Edge.refused(Edge::full, "of a text with a FAULT", x -> x.recipe(0, 0), -2, Edge.SIZE);
    }

    private static void supperSeats() {
        Due.sentence("SUPPER (of MEMBERS 0 to 5): what it was");
        DreamShares x = new DreamShares();
        for (int m = 0; m < 6; m++) {
            Due.same("at first", x.supper(m, 3), -1);
            Due.same("the greatest kind", x.supper(m, 0), 3);
            Due.same("the least kind", x.supper(m, DreamShares.NONE), 0);
            Due.same("none", x.supper(m, m % 4), -1);
        }
        Due.same("nobody is there", x.count(4), 0);
        Due.type(x, 0, "1000;1000");
        Due.same("they come with it", x.count(4), 2);
        for (int m = 0; m < 6; m++) {
            Due.same("each has its own", x.supper(m, 1), m % 4);
        }
    }

    private static void supperBad() {
        Due.sentence("supper: BAD (NONE to 3)");
        for (int member : Edge.outside(0, 5)) {
            Edge.bad("supper(" + member + ", 0)", x -> x.supper(member, 0), -2);
            Edge.bad("supper(" + member + ", NONE)", x -> x.supper(member, -1), -2);
        }
        for (int kind : Edge.outside(-1, 3)) {
            Edge.bad("supper(0, " + kind + ")", x -> x.supper(0, kind), -2);
            Edge.bad("supper(5, " + kind + ")", x -> x.supper(5, kind), -2);
        }
    }

    private static void setTells() {
        Due.sentence("SPICE (what = 0), LOSS (1): what it was");
        DreamShares x = new DreamShares();
        Due.same("SPICE at first", x.set(0, 9), 3);
        Due.same("LOSS at first", x.set(1, 0), 2);
        Due.same("the greatest SPICE", x.set(0, 0), 9);
        Due.same("the least LOSS", x.set(1, 9), 0);
        Due.same("the least SPICE", x.count(6), 0);
        Due.same("the greatest LOSS", x.count(7), 9);
    }

    private static void setBad() {
        Due.sentence("set: BAD");
        for (int what : Edge.outside(0, 1)) {
            Edge.bad("set(" + what + ", 1)", x -> x.set(what, 1), -2);
        }
        for (int v : Edge.outside(0, 9)) {
            Edge.bad("set(0, " + v + ")", x -> x.set(0, v), -2);
            Edge.bad("set(1, " + v + ")", x -> x.set(1, v), -2);
        }
    }

    private static void payRange() {
        Due.sentence("PAY of a MEMBER (0 to 99; 0 at first); PAY (of MEMBERS 0 to 5): what it was");
        DreamShares x = new DreamShares();
        for (int m = 0; m < 6; m++) {
            Due.same("at first", x.pay(m, 99), 0);
            Due.same("the greatest", x.pay(m, 0), 99);
            Due.same("the least", x.pay(m, m + 1), 0);
        }
        Due.same("nobody is there", x.count(5), 0);
        Due.type(x, 0, "1000;1000;1000");
        Due.same("it comes with them", x.count(5), 6);
        for (int m = 0; m < 6; m++) {
            Due.same("each has its own", x.pay(m, 0), m + 1);
        }
    }

    private static void payBad() {
        Due.sentence("pay: BAD");
        for (int member : Edge.outside(0, 5)) {
            Edge.bad("pay(" + member + ", 1)", x -> x.pay(member, 1), -2);
        }
        for (int v : Edge.outside(0, 99)) {
            Edge.bad("pay(0, " + v + ")", x -> x.pay(0, v), -2);
            Edge.bad("pay(5, " + v + ")", x -> x.pay(5, v), -2);
        }
    }

    private static void dreamtRange() {
        Due.sentence("DREAMT: the KIND of a MEMBER as it was noted (0 to 3; NONE, at first: not noted)");
        DreamShares x = new DreamShares();
        for (int m = 0; m < 6; m++) {
            Due.same("at first", x.dreamt(m, 3), -1);
            Due.same("the greatest kind", x.dreamt(m, 0), 3);
            Due.same("the least kind", x.dreamt(m, DreamShares.NONE), 0);
            Due.same("not noted", x.dreamt(m, 3 - m % 4), -1);
        }
        for (int m = 0; m < 6; m++) {
            Due.same("each has its own", x.dreamt(m, 1), 3 - m % 4);
        }
    }

    private static void dreamtBad() {
        Due.sentence("dreamt: BAD (NONE to 3)");
        for (int member : Edge.outside(0, 5)) {
            Edge.bad("dreamt(" + member + ", 0)", x -> x.dreamt(member, 0), -2);
            Edge.bad("dreamt(" + member + ", NONE)", x -> x.dreamt(member, -1), -2);
        }
        for (int kind : Edge.outside(-1, 3)) {
            Edge.bad("dreamt(0, " + kind + ")", x -> x.dreamt(0, kind), -2);
            Edge.bad("dreamt(5, " + kind + ")", x -> x.dreamt(5, kind), -2);
        }
    }

    private static DreamShares withItems(int form, int... items) {
        DreamShares x = new DreamShares();
        x.sheet(2, form, items.length);
        for (int i = 0; i < items.length; i++) {
            x.put(2, form, i, items[i]);
        }
        for (int m = 0; m < 6; m++) {
            x.pay(m, 50 + m);
        }
        return x;
    }

    private static void reads(int form, int[] items, int done) {
        DreamShares x = withItems(form, items);
        Due.same("read of " + items.length + " items", x.read(2), done);
        for (int m = 0; m < 6; m++) {
            Due.same("pay of " + m, x.pay(m, 0), m < done ? items[m] : 50 + m);
        }
        for (int i = 0; i < items.length; i++) {
            Due.same("item " + i + " stays", x.get(2, form, i), items[i]);
        }
        Due.same("no finding", x.count(8), 0);
    }

    private static void readSixAtMost() {
        Due.sentence("read: six at most: how many");
        for (int form = 0; form < 3; form++) {
            reads(form, new int[] {1, 2, 3, 4, 5}, 5);
            reads(form, new int[] {1, 2, 3, 4, 5, 6}, 6);
            reads(form, new int[] {1, 2, 3, 4, 5, 6, 7}, 6);
            reads(form, new int[] {1, 2, 3, 4, 5, 6, -1}, 6);
        }
        reads(0, new int[48], 6);
    }

    private static void readUpToTheFirst() {
        Due.sentence("item by item, up to the first that is not 0 to 99");
        reads(0, new int[] {0, 99, 100, 1}, 2);
        reads(0, new int[] {99, 0, -1, 1}, 2);
        reads(1, new int[] {1, 256 + 1, 1}, 1);
        reads(2, new int[] {1, 2, 65536, 1}, 2);
        reads(2, new int[] {Edge.LEAST, 1}, 0);
        reads(2, new int[] {Edge.MOST, 1}, 0);
        reads(2, new int[] {1, 2, 3, 4, 5, 100}, 5);
        reads(0, new int[] {-128}, 0);
    }

    private static void readFewItems() {
        Due.sentence("PAY of MEMBERS 0 on by a SHEET, item by item");
        reads(1, new int[] {}, 0);
        reads(1, new int[] {7}, 1);
        DreamShares x = withItems(0, 1, 2, 3, 4, 5, 6);
        Due.same("also of those that are not there", x.read(2), 6);
        Due.same("nobody", x.count(5), 0);
        Due.type(x, 0, "1000;1000");
        Due.same("two", x.count(5), 3);
    }

    private static void readRefused() {
        Due.sentence("read: BAD; NULL");
        for (int s : Edge.outside(0, 3)) {
            Edge.bad("read(" + s + ")", x -> x.read(s), -2);
        }
        Edge.found("read(3)", x -> x.read(3), -11, Edge.NULL);
        DreamShares y = Edge.busy();
        y.lose(0);
        Due.same("a row that was lost", y.read(0), -11);
        Due.same("PAY is as it was", y.pay(1, 0), 11);
    }
}
