/** Promise 36: digest, by the calls that it is made of. */
public final class DigestTest {
    private static long h;

    public static void main(String[] args) {
        same(new DreamShares());
        same(Due.with("1234", "f5"));
        same(Due.with("1234;0009", "fw5;n1"));
        same(Due.with("3214;1111;0902", "fw8;wg6;nn3;f2;gg7;n1"));
        same(Due.with("9999;1234;0100;0005;3003;1010", "fw8;wg6;nn3;f2;gg7;n1"));
        same(Due.with("9999;123", "fw"));
        DreamShares x = Due.with("9999;1234;0100", "fg9;ww1");
        for (int m = 0; m < 6; m++) {
            x.supper(m, m % 4);
            x.pay(m, 2 * m);
            x.dreamt(m, m % 3);
        }
        x.set(0, 9);
        x.set(1, 8);
        same(x);
        x.lose(0);
        same(x);
        lossAboutTheNinthNight();
        Due.end();
    }

    /** The week of the digest has nine nights: a first loss in its last one is told, one in the next is not. */
    private static void lossAboutTheNinthNight() {
        DreamShares last = Due.with("1901", "");
        Due.same("the last night", last.week(7, 9, 1), 8);
        same(last);
        DreamShares next = Due.with("0100;1063", "f1;w3");
        next.set(1, 4);
        Due.same("the night after", next.week(7, 10, 1), 9);
        same(next);
    }

    private static void add(long v) {
        h = 31 * h + v;
    }

    private static void same(DreamShares x) {
        int findingBefore = x.count(8);
        Due.same("digest()", x.digest(), byCalls(x));
        Due.same("digest() changes nothing", x.count(8), findingBefore);
        Due.same("digest() again", x.digest(), h);
    }

    private static long byCalls(DreamShares x) {
        h = 17;
        for (int what = 0; what < 8; what++) {
            add(x.count(what));
        }
        add(x.fault(0));
        add(x.fault(1));
        for (int m = 0; m < x.count(0); m++) {
            addMember(x, m);
        }
        for (int r = 0; r < x.count(1); r++) {
            add(x.recipe(r, 0));
            add(x.recipe(r, 1));
            add(x.recipe(r, 2));
            add(x.made(2, 2, 1, 1, r));
        }
        addRest(x);
        return h;
    }

    private static void addMember(DreamShares x, int m) {
        for (int kind = 0; kind < 4; kind++) {
            add(x.member(m, kind));
        }
        add(x.chance(m, 0, 0));
        add(x.chance(m, 0, 1));
        add(x.mean(1 << m, 0));
        add(x.mean(1 << m, 1));
        add(x.share(m, 0));
        add(x.share(m, 1));
        add(x.best(m));
        add(x.may(1, 1, 1, 0, m));
    }

    private static void addRest(DreamShares x) {
        add(x.worth(2, 2, 1, 1));
        add(x.worth(0, 0, 0, 6));
        add(x.mean(63, 0));
        add(x.mean(63, 1));
        add(x.leave());
        add(x.strike(1, 0));
        add(x.strike(1, 1));
        add(x.menu(1, 0));
        add(x.menuMean(2, 0));
        add(x.menuMean(2, 1));
        add(x.dread(1, 0));
        add(x.dread(1, 1));
        add(x.rows(1, 1, 1, 0));
        add(x.kept(1, 1, 0, 0));
        add(x.week(7, 9, 0));
        add(x.week(7, 9, 1));
    }
}
