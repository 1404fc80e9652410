/** Promise 36: digest, by the calls that it is made of. */
public final class DigestTest {
    public static void main(String[] args) {
        same(new DreamShares());
        same(Due.with("1234", "f5"));
        same(Due.with("1234;0009", "fw5;n1"));
        same(Due.with("3214;1111;0902", "fw8;wg6;nn3;f2;gg7;n1"));
        same(Due.with("9999;1234;0100;0005;3003;1010", "fw8;wg6;nn3;f2;gg7;n1"));
        same(Due.with("9999;123", "fw"));
        DreamShares x = Due.with("9999;1234;0100", "fg9;ww1");
        for (int m = 0; m < 6; m++) {
            x.supper(m, m % 4);
            x.pay(m, 2 * m);
            x.dreamt(m, m % 3);
        }
        x.set(0, 9);
        x.set(1, 8);
        same(x);
        x.lose(0);
        same(x);
        lossAboutTheNinthNight();
        Due.end();
    }

    /** The week of the digest has nine nights: a first loss in its last one is told, one in the next is not. */
    private static void lossAboutTheNinthNight() {
        DreamShares last = Due.with("1901", "");
        Due.same("the last night", last.week(7, 9, 1), 8);
        same(last);
        DreamShares next = Due.with("0100;1063", "f1;w3");
        next.set(1, 4);
        Due.same("the night after", next.week(7, 10, 1), 9);
        same(next);
    }

    private static void same(DreamShares x) {
        int findingBefore = x.count(8);
        long want = Digest.of(x);
        Due.same("digest()", x.digest(), want);
        Due.same("digest() changes nothing", x.count(8), findingBefore);
        Due.same("digest() again", x.digest(), want);
    }
}
