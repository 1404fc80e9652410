import java.util.Arrays;

/** Promise 36 written out: the calls whose answers make a digest, in the document's order. */
final class Digest {
    /** A * stands for the member or recipe, a # for the bit of a member. */
    private static final String[] FIRST = {"count 0", "count 1", "count 2", "count 3", "count 4", "count 5", "count 6",
        "count 7", "fault 0", "fault 1"};
    private static final String[] OF_MEMBER = {"member * 0", "member * 1", "member * 2", "member * 3", "chance * 0 0",
        "chance * 0 1", "mean # 0", "mean # 1", "share * 0", "share * 1", "best *", "may 1 1 1 0 *"};
    private static final String[] OF_RECIPE = {"recipe * 0", "recipe * 1", "recipe * 2", "made 2 2 1 1 *"};
    private static final String[] LAST = {"worth 2 2 1 1", "worth 0 0 0 6", "mean 63 0", "mean 63 1", "leave", "strike 1 0",
        "strike 1 1", "menu 1 0", "menuMean 2 0", "menuMean 2 1", "dread 1 0", "dread 1 1", "rows 1 1 1 0", "kept 1 1 0 0",
        "week 7 9 0", "week 7 9 1"};

    private Digest() {
    }

    /** By the calls of an object of the class, or of its model. */
    static long of(Object x) {
        long h = add(17, x, FIRST, 0);
        for (int m = 0; m < Calls.ask(x, "count", 0); m++) {
            h = add(h, x, OF_MEMBER, m);
        }
        for (int r = 0; r < Calls.ask(x, "count", 1); r++) {
            h = add(h, x, OF_RECIPE, r);
        }
        return add(h, x, LAST, 0);
    }

    private static long add(long before, Object x, String[] calls, int number) {
        long h = before;
        for (String call : calls) {
            String[] words = call.replace("*", "" + number).replace("#", "" + (1 << number)).split(" ");
            int[] arguments = Arrays.stream(words).skip(1).mapToInt(Integer::parseInt).toArray();
            h = 31 * h + Calls.ask(x, words[0], arguments);
        }
        return h;
    }
}
