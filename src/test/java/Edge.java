import java.util.ArrayList;
import java.util.List;

/** What the tests of edges share: numbers just outside, and refused calls that must change nothing. */
final class Edge {
    /** One call on an object. */
    interface Call {
        long on(DreamShares x);
    }

    /** Makes an object, each time in the same state. */
    interface Maker {
        DreamShares make();
    }

    static final int LEAST = Integer.MIN_VALUE, MOST = Integer.MAX_VALUE;
    static final int NULL = 1, INDEX = 2, CAST = 3, STORE = 4, SIZE = 5;
    static final String BUSY_MEMBERS = "3214;1111;0902", BUSY_RECIPES = "fw8;nn3;g2";
    /** Members that fill their text, and recipes that fill theirs (with a FAULT: six of them take 23 bytes at most). */
    static final String FULL_MEMBERS = "1000;0100;0010;0001;1111;9999";
    static final String FULL_RECIPES = "ff1;ww2;gg3;nn4;fw5;wg6;gn7;f";

    private Edge() {
    }

    /** The numbers next to a range, and the farthest ones. */
    static int[] outside(int least, int most) {
        return new int[] {LEAST, least - 1, most + 1, MOST};
    }

    /** Something in everything that an object holds; sheet 3 is LOST, and the latest FINDING is SIZE. */
    static DreamShares busy() {
        DreamShares x = Due.with(BUSY_MEMBERS, BUSY_RECIPES);
        for (int m = 0; m < 6; m++) {
            x.supper(m, (m + 1) % 5 - 1);
            x.pay(m, 10 * m + 1);
            x.dreamt(m, (m + 2) % 5 - 1);
        }
        x.set(0, 4);
        x.set(1, 5);
        fillSheet(x, 0, 1, 5);
        fillSheet(x, 1, 2, 4);
        fillSheet(x, 2, 1, 4);
        x.sheet(0, 0, -1);
        return x;
    }

    /** As busy, but both texts are full. */
    static DreamShares full() {
        DreamShares x = busy();
        Due.retype(x, 0, FULL_MEMBERS);
        Due.retype(x, 1, FULL_RECIPES);
        return x;
    }

    static void fillSheet(DreamShares x, int s, int form, int n) {
        x.sheet(s, form, n);
        for (int i = 0; i < n; i++) {
            x.put(s, form, i, 10 * s + i + 1);
        }
    }

    /** The call is refused without a FINDING and changes nothing at all. */
    static void bad(String name, Call call, long want) {
        refused(Edge::busy, name, call, want, SIZE);
    }

    /** The call answers by a FINDING and changes nothing but the number of the latest one. */
    static void found(String name, Call call, long want, int finding) {
        Maker maker = finding == SIZE ? Edge::busyAfterNull : Edge::busy;
        refused(maker, name, call, want, finding);
    }

    private static DreamShares busyAfterNull() {
        DreamShares x = busy();
        x.lose(3);
        return x;
    }

    static void refused(Maker maker, String name, Call call, long want, int finding) {
        DreamShares asked = maker.make();
        Due.same(name, call.on(asked), want);
        Due.same("count(8) after " + name, asked.count(8), finding);
        unchanged(name, asked, maker.make());
    }

    /** Both objects tell the same of everything (but for the latest FINDING); both are used up by it. */
    static void unchanged(String name, DreamShares one, DreamShares other) {
        List<Long> got = everything(one);
        List<Long> want = everything(other);
        for (int i = 0; i < Math.max(got.size(), want.size()); i++) {
            boolean isSame = i < got.size() && i < want.size() && got.get(i).equals(want.get(i));
            Due.holds(name + " leaves all as it is (number " + i + " of Edge.everything)", isSame);
        }
    }

    private static List<Long> everything(DreamShares x) {
        List<Long> told = new ArrayList<>();
        told.add(x.digest());
        for (int m = 0; m < 6; m++) {
            told.add((long) x.supper(m, DreamShares.NONE));
            told.add((long) x.pay(m, 0));
            told.add((long) x.dreamt(m, DreamShares.NONE));
        }
        for (int s = 0; s < 4; s++) {
            for (int form = 0; form < 3; form++) {
                for (int i = 0; i < 6; i++) {
                    told.add((long) x.get(s, form, i));
                }
            }
            told.add((long) x.lose(s));
        }
        for (int text = 0; text < 2; text++) {
            for (int left = x.count(2 + text); left >= 0; left--) {
                told.add((long) x.fault(text));
                told.add((long) (text == 0 ? x.member(0, 0) : x.recipe(0, 0)));
                told.add((long) x.undo(text));
            }
        }
        return told;
    }
}
