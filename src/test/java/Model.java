import java.math.BigInteger;
import java.nio.charset.StandardCharsets;
import java.util.ArrayList;
import java.util.Arrays;
import java.util.HashMap;
import java.util.List;
import java.util.Map;
import java.util.function.ToLongFunction;

/** The document once more, by trying out everything: all rows of dreams, all rows of recipes, all rows of coming. */
final class Model {
    private static final int NONE = -1, BAD = -2, NOT = -3, FULL = -4;
    private static final String LETTERS = "fwgn";
    private static final String MEMBER = "(?!0000)[0-9]{4}";
    private static final String RECIPE = "[fwgn]{1,2}[1-9]";

    private final StringBuilder[] texts = {new StringBuilder(), new StringBuilder()};
    private final int[] suppers = {NONE, NONE, NONE, NONE, NONE, NONE};
    private final int[] pays = new int[6];
    private final int[] noted = {NONE, NONE, NONE, NONE, NONE, NONE};
    private final Object[] sheets = new Object[4];
    private int spice = 3;
    private int loss = 2;
    private int finding = 0;
    /** Kept, as a run asks for them again and again: the parts of texts, what pools are made to. */
    private final String[] split = {"", ""};
    private final String[][] parts = {{}, {}};
    private final Map<List<Integer>, int[]> madeBefore = new HashMap<>();
    private String madeBy = "";

    /** A fraction in lowest terms. */
    private record Ratio(BigInteger above, BigInteger below) {
        static Ratio of(long above, long below) {
            return lowest(BigInteger.valueOf(above), BigInteger.valueOf(below));
        }

        static Ratio lowest(BigInteger above, BigInteger below) {
            BigInteger g = above.gcd(below);
            return new Ratio(above.divide(g), below.divide(g));
        }

        Ratio plus(Ratio o) {
            return lowest(above.multiply(o.below).add(o.above.multiply(below)), below.multiply(o.below));
        }

        Ratio minus(Ratio o) {
            return plus(new Ratio(o.above.negate(), o.below));
        }

        Ratio by(long divisor) {
            return lowest(above, below.multiply(BigInteger.valueOf(divisor)));
        }

        boolean isMoreThan(Ratio o) {
            return minus(o).above.signum() > 0;
        }

        long part(int what) {
            return (what == 0 ? above : below).longValueExact();
        }
    }

    // texts

    private static boolean isComplete(int text, String bytes) {
        String one = text == 0 ? MEMBER : RECIPE;
        return bytes.isEmpty() || bytes.matches(one + "(;" + one + "){0,5}");
    }

    private static boolean canGoOn(int text, String bytes) {
        if (bytes.endsWith(";") && bytes.length() > 1 && isComplete(text, bytes.substring(0, bytes.length() - 1))) {
            return true;
        }
        String[] ends = text == 0 ? new String[] {"", "1", "11", "111", "1111"} : new String[] {"", "1", "f1"};
        return Arrays.stream(ends).anyMatch(end -> isComplete(text, bytes + end));
    }

    int fault(int text) {
        if (text < 0 || text > 1) {
            return BAD;
        }
        String bytes = texts[text].toString();
        for (int i = 0; i < bytes.length(); i++) {
            if (!canGoOn(text, bytes.substring(0, i + 1))) {
                return i;
            }
        }
        return isComplete(text, bytes) ? NONE : bytes.length();
    }

    private String[] parts(int text) {
        String bytes = texts[text].toString();
        if (!bytes.equals(split[text])) {
            boolean isNone = bytes.isEmpty() || fault(text) != NONE;
            split[text] = bytes;
            parts[text] = isNone ? new String[0] : bytes.split(";");
        }
        return parts[text];
    }

    int type(int text, int b) {
        if (text < 0 || text > 1 || b < 0 || b > 255) {
            return BAD;
        }
        if (texts[text].length() == 29) {
            return FULL;
        }
        texts[text].append(new String(new byte[] {(byte) b}, StandardCharsets.ISO_8859_1));
        return texts[text].length();
    }

    int wipe(int text) {
        if (text < 0 || text > 1) {
            return BAD;
        }
        int had = texts[text].length();
        texts[text].setLength(0);
        return had;
    }

    int undo(int text) {
        if (text < 0 || text > 1) {
            return BAD;
        }
        if (texts[text].length() == 0) {
            return NOT;
        }
        texts[text].setLength(texts[text].length() - 1);
        return texts[text].length();
    }

    private int people() {
        return parts(0).length;
    }

    int member(int member, int kind) {
        String[] told = parts(0);
        return member < 0 || member >= told.length || kind < 0 || kind > 3 ? BAD : told[member].charAt(kind) - '0';
    }

    int recipe(int recipe, int what) {
        String[] told = parts(1);
        if (recipe < 0 || recipe >= told.length || what < 0 || what > 2) {
            return BAD;
        }
        String r = told[recipe];
        if (what == 2) {
            return r.charAt(r.length() - 1) - '0';
        }
        return what == 0 ? LETTERS.indexOf(r.charAt(0)) : LETTERS.indexOf(r.charAt(1));
    }

    // settings

    private static int change(int[] row, int member, int v, int least, int most) {
        if (member < 0 || member > 5 || v < least || v > most) {
            return BAD;
        }
        int was = row[member];
        row[member] = v;
        return was;
    }

    int supper(int member, int kind) {
        return change(suppers, member, kind, NONE, 3);
    }

    int pay(int member, int v) {
        return change(pays, member, v, 0, 99);
    }

    int dreamt(int member, int kind) {
        return change(noted, member, kind, NONE, 3);
    }

    int set(int what, int v) {
        if (what < 0 || what > 1 || v < 0 || v > 9) {
            return BAD;
        }
        int was = what == 0 ? spice : loss;
        spice = what == 0 ? v : spice;
        loss = what == 1 ? v : loss;
        return was;
    }

    int read(int s) {
        if (s < 0 || s > 3) {
            return BAD;
        }
        if (sheets[s] == null) {
            return found(1);
        }
        int i = 0;
        for (; i < Math.min(6, size(s)); i++) {
            int v = item(s, i);
            if (v < 0 || v > 99) {
                break;
            }
            pays[i] = v;
        }
        return i;
    }

    // worth

    private int weight(int member, int kind, int[] dishes) {
        return member(member, kind) + (dishes[member] == kind ? spice : 0);
    }

    private int[] weights(int member, int[] dishes) {
        int[] row = new int[4];
        for (int kind = 0; kind < 4; kind++) {
            row[kind] = weight(member, kind, dishes);
        }
        return row;
    }

    private static boolean isBadPool(int[] pool) {
        return Arrays.stream(pool).anyMatch(d -> d < 0 || d > 6);
    }

    private static boolean isTooLarge(int[] pool) {
        return isBadPool(pool) || Arrays.stream(pool).sum() > 6;
    }

    /** How often each recipe is made, and last what that brings; rows are tried from the greatest on. */
    private int[] makeAll(int[] pool) {
        String by = String.join(";", parts(1));
        if (!by.equals(madeBy)) {
            madeBefore.clear();
            madeBy = by;
        }
        List<Integer> key = List.of(pool[0], pool[1], pool[2], pool[3]);
        int[] known = madeBefore.get(key);
        if (known != null) {
            return known;
        }
        String[] recipes = parts(1);
        int[] best = new int[recipes.length + 1];
        best[recipes.length] = -1;
        tryRows(recipes, 0, pool.clone(), new int[recipes.length + 1], best);
        madeBefore.put(key, best);
        return best;
    }

    private static void tryRows(String[] recipes, int at, int[] left, int[] row, int[] best) {
        if (at == recipes.length) {
            if (row[at] > best[at]) {
                System.arraycopy(row, 0, best, 0, row.length);
            }
            return;
        }
        String r = recipes[at];
        int price = r.charAt(r.length() - 1) - '0';
        for (int often = 6; often >= 0; often--) {
            int[] rest = left.clone();
            for (int i = 0; i < r.length() - 1; i++) {
                rest[LETTERS.indexOf(r.charAt(i))] -= often;
            }
            if (Arrays.stream(rest).allMatch(d -> d >= 0)) {
                int[] next = row.clone();
                next[at] = often;
                next[recipes.length] += often * price;
                tryRows(recipes, at + 1, rest, next, best);
            }
        }
    }

    private int worthOf(int[] pool) {
        int[] made = makeAll(pool);
        return made[made.length - 1] - loss * pool[3];
    }

    int worth(int f, int w, int g, int n) {
        int[] pool = {f, w, g, n};
        return isTooLarge(pool) ? -10000 + BAD : worthOf(pool);
    }

    int made(int f, int w, int g, int n, int recipe) {
        int[] pool = {f, w, g, n};
        return isTooLarge(pool) || recipe < 0 || recipe >= parts(1).length ? BAD : makeAll(pool)[recipe];
    }

    private static long refusal() {
        return Long.MIN_VALUE - BAD;
    }

    private static boolean isPart(int what) {
        return what == 0 || what == 1;
    }

    long chance(int member, int kind, int what) {
        if (member < 0 || member >= people() || kind < 0 || kind > 3 || !isPart(what)) {
            return refusal();
        }
        int[] row = weights(member, suppers);
        return Ratio.of(row[kind], Arrays.stream(row).sum()).part(what);
    }

    /** What a function of the pool is on the mean, over all rows of dreams of a set. */
    private Ratio onMean(int set, int[] dishes, ToLongFunction<int[]> of) {
        int[][] odds = new int[6][];
        long below = 1;
        for (int m = 0; m < people(); m++) {
            if ((set >> m & 1) != 0) {
                odds[m] = weights(m, dishes);
                below *= Arrays.stream(odds[m]).sum();
            }
        }
        return Ratio.of(sumRows(odds, 0, 1, new int[4], of), below);
    }

    private long sumRows(int[][] odds, int m, long chance, int[] pool, ToLongFunction<int[]> of) {
        if (chance == 0) {
            return 0;
        }
        if (m == odds.length) {
            return chance * of.applyAsLong(pool);
        }
        if (odds[m] == null) {
            return sumRows(odds, m + 1, chance, pool, of);
        }
        long sum = 0;
        for (int kind = 0; kind < 4; kind++) {
            pool[kind]++;
            sum += sumRows(odds, m + 1, chance * odds[m][kind], pool, of);
            pool[kind]--;
        }
        return sum;
    }

    private Ratio meanOf(int set, int[] dishes) {
        int[][][][] worths = worths();
        return onMean(set, dishes, p -> worths[p[0]][p[1]][p[2]][p[3]]);
    }

    private int[][][][] worths() {
        int[][][][] all = new int[7][7][7][7];
        int most = people();
        for (int f = 0; f <= most; f++) {
            for (int w = 0; f + w <= most; w++) {
                for (int g = 0; f + w + g <= most; g++) {
                    for (int n = 0; f + w + g + n <= most; n++) {
                        all[f][w][g][n] = worthOf(new int[] {f, w, g, n});
                    }
                }
            }
        }
        return all;
    }

    long mean(int members, int what) {
        return members < 0 || members > 63 || !isPart(what) ? refusal() : meanOf(members, suppers).part(what);
    }

    // shares, suppers

    private Ratio[] allMeans() {
        Ratio[] means = new Ratio[1 << people()];
        for (int set = 0; set < means.length; set++) {
            means[set] = meanOf(set, suppers);
        }
        return means;
    }

    long share(int member, int what) {
        if (member < 0 || member >= people() || !isPart(what)) {
            return refusal();
        }
        Ratio[] sum = {Ratio.of(0, 1)};
        int rows = come(allMeans(), member, 0, sum);
        return sum[0].by(rows).part(what);
    }

    /** All rows in which those who are not yet come can come: how many. */
    private int come(Ratio[] means, int member, int came, Ratio[] sum) {
        if (came == means.length - 1) {
            return 1;
        }
        int rows = 0;
        for (int m = 0; m < people(); m++) {
            if ((came >> m & 1) == 0) {
                int then = came | 1 << m;
                int behind = come(means, member, then, sum);
                rows += behind;
                for (int i = 0; m == member && i < behind; i++) {
                    sum[0] = sum[0].plus(means[then].minus(means[came]));
                }
            }
        }
        return rows;
    }

    int leave() {
        Ratio[] means = allMeans();
        for (int size = 1; size <= people(); size++) {
            for (int set = 1; set < means.length; set++) {
                int together = 0;
                for (int m = 0; m < 6; m++) {
                    together += (set >> m & 1) * pays[m];
                }
                if (Integer.bitCount(set) == size && means[set].isMoreThan(Ratio.of(together, 1))) {
                    return set;
                }
            }
        }
        return NONE;
    }

    long strike(int members, int what) {
        if (members < 0 || members > 63 || !isPart(what)) {
            return refusal();
        }
        return meanOf(63, suppers).minus(meanOf(63 & ~members, suppers)).part(what);
    }

    int best(int member) {
        if (member < 0 || member >= people()) {
            return BAD;
        }
        int[] dishes = suppers.clone();
        int bestDish = NONE;
        Ratio bestMean = null;
        for (int dish = NONE; dish < 4; dish++) {
            dishes[member] = dish;
            Ratio now = meanOf(63, dishes);
            if (bestMean == null || now.isMoreThan(bestMean)) {
                bestMean = now;
                bestDish = dish;
            }
        }
        return bestDish;
    }

    private int[] bestMenu(int k) {
        int[] best = null;
        Ratio bestMean = null;
        for (int code = 0; code < Math.pow(4, k); code++) {
            int[] dishes = suppers.clone();
            int rest = code;
            for (int m = k - 1; m >= 0; m--) {
                dishes[m] = rest % 4;
                rest /= 4;
            }
            Ratio now = meanOf(63, dishes);
            if (bestMean == null || now.isMoreThan(bestMean)) {
                bestMean = now;
                best = dishes;
            }
        }
        return best;
    }

    private boolean isMenu(int k) {
        return k >= 1 && k <= 3 && k <= people();
    }

    int menu(int k, int member) {
        return !isMenu(k) || member < 0 || member >= k ? BAD : bestMenu(k)[member];
    }

    long menuMean(int k, int what) {
        return !isMenu(k) || !isPart(what) ? refusal() : meanOf(63, bestMenu(k)).part(what);
    }

    long dread(int k, int what) {
        if (k < 0 || k > 6 || !isPart(what)) {
            return refusal();
        }
        return onMean(63, suppers, p -> p[3] >= k ? 1 : 0).part(what);
    }

    // totals, weeks

    /** All rows that can have made the pool, the least first, each with its chance behind the kinds. */
    private List<long[]> rowsOf(int[] pool) {
        List<long[]> rows = new ArrayList<>();
        int n = people();
        for (int code = 0; code < 1 << 2 * n; code++) {
            int[] left = pool.clone();
            long[] row = new long[n + 1];
            row[n] = 1;
            for (int m = 0; m < n; m++) {
                int kind = code >> 2 * (n - 1 - m) & 3;
                left[kind]--;
                row[m] = kind;
                row[n] *= weight(m, kind, suppers);
            }
            if (row[n] > 0 && Arrays.stream(left).allMatch(d -> d == 0)) {
                rows.add(row);
            }
        }
        return rows;
    }

    int rows(int f, int w, int g, int n) {
        int[] pool = {f, w, g, n};
        return isBadPool(pool) ? BAD : rowsOf(pool).size();
    }

    int may(int f, int w, int g, int n, int member) {
        int[] pool = {f, w, g, n};
        if (isBadPool(pool) || member < 0 || member >= people()) {
            return BAD;
        }
        int bits = 0;
        for (long[] row : rowsOf(pool)) {
            bits |= 1 << row[member];
        }
        return bits;
    }

    int likeliest(int f, int w, int g, int n, int member) {
        int[] pool = {f, w, g, n};
        int all = people();
        if (isBadPool(pool) || member < 0 || member >= all) {
            return BAD;
        }
        long[] best = null;
        for (long[] row : rowsOf(pool)) {
            if (best == null || row[all] > best[all]) {
                best = row;
            }
        }
        return best == null ? NONE : (int) best[member];
    }

    int kept(int f, int w, int g, int n) {
        int[] pool = {f, w, g, n};
        if (isBadPool(pool)) {
            return BAD;
        }
        int bits = 0;
        for (int m = 0; m < people(); m++) {
            int[] left = new int[4];
            for (int other = 0; other < people(); other++) {
                if (other != m && noted[other] != NONE) {
                    left[noted[other]]++;
                }
            }
            if (noted[m] != NONE && Arrays.equals(left, pool)) {
                bits |= 1 << m;
            }
        }
        return bits;
    }

    private int[] nights(int seed, int n) {
        int[] worths = new int[n];
        int now = seed;
        for (int night = 0; night < n; night++) {
            int[] pool = new int[4];
            for (int m = 0; m < people(); m++) {
                now = now * 1103515245 + 12345;
                int[] row = weights(m, suppers);
                int lot = (now >> 16 & 0xffff) % Arrays.stream(row).sum();
                int kind = 0;
                int upTo = row[0];
                while (lot >= upTo) {
                    kind++;
                    upTo += row[kind];
                }
                pool[kind]++;
            }
            worths[night] = worthOf(pool);
        }
        return worths;
    }

    int week(int seed, int n, int what) {
        if (n < 1 || n > 60 || what < 0 || what > 1) {
            return -10000 + BAD;
        }
        int[] worths = nights(seed, n);
        if (what == 0) {
            return Arrays.stream(worths).sum();
        }
        for (int night = 0; night < n; night++) {
            if (worths[night] < 0) {
                return night;
            }
        }
        return NONE;
    }

    // sheets

    private int found(int number) {
        finding = number;
        return -10 - number;
    }

    private int formOf(int s) {
        return sheets[s] instanceof byte[] ? 0 : sheets[s] instanceof short[] ? 1 : 2;
    }

    private int size(int s) {
        return java.lang.reflect.Array.getLength(sheets[s]);
    }

    private int item(int s, int i) {
        return java.lang.reflect.Array.getInt(sheets[s], i);
    }

    private void store(int s, int i, int v) {
        if (sheets[s] instanceof byte[] b) {
            b[i] = (byte) v;
        } else if (sheets[s] instanceof short[] h) {
            h[i] = (short) v;
        } else {
            ((int[]) sheets[s])[i] = v;
        }
    }

    int sheet(int s, int form, int n) {
        if (s < 0 || s > 3 || form < 0 || form > 2 || n > 48) {
            return BAD;
        }
        if (n < 0) {
            return found(5);
        }
        sheets[s] = form == 0 ? new byte[n] : form == 1 ? new short[n] : new int[n];
        return n;
    }

    int lose(int s) {
        if (s < 0 || s > 3) {
            return BAD;
        }
        if (sheets[s] == null) {
            return found(1);
        }
        int had = size(s);
        sheets[s] = null;
        return had;
    }

    private int wrongAt(int s, int form, int i) {
        if (sheets[s] == null) {
            return 1;
        }
        if (formOf(s) != form) {
            return 3;
        }
        return i < 0 || i >= size(s) ? 2 : 0;
    }

    int put(int s, int form, int i, int v) {
        if (s < 0 || s > 3 || form < 0 || form > 2) {
            return BAD;
        }
        int wrong = wrongAt(s, form, i);
        if (wrong != 0) {
            return found(wrong);
        }
        store(s, i, v);
        return 1;
    }

    int get(int s, int form, int i) {
        if (s < 0 || s > 3 || form < 0 || form > 2) {
            return Integer.MIN_VALUE;
        }
        int wrong = wrongAt(s, form, i);
        if (wrong != 0) {
            found(wrong);
            return Integer.MIN_VALUE;
        }
        return item(s, i);
    }

    int copy(int s, int i, int t, int j, int n) {
        if (s < 0 || s > 3 || t < 0 || t > 3) {
            return BAD;
        }
        if (sheets[s] == null || sheets[t] == null) {
            return found(1);
        }
        if (formOf(s) != formOf(t)) {
            return found(4);
        }
        if (i < 0 || j < 0 || n < 0 || (long) i + n > size(s) || (long) j + n > size(t)) {
            return found(2);
        }
        int[] were = new int[n];
        for (int at = 0; at < n; at++) {
            were[at] = item(s, i + at);
        }
        for (int at = 0; at < n; at++) {
            store(t, j + at, were[at]);
        }
        return 1;
    }

    int write(int seed, int s) {
        if (s < 0 || s > 3) {
            return BAD;
        }
        if (sheets[s] == null) {
            return found(1);
        }
        int[] worths = nights(seed, size(s));
        for (int i = 0; i < worths.length; i++) {
            store(s, i, worths[i]);
        }
        return worths.length;
    }

    int count(int what) {
        int withSupper = 0;
        int together = 0;
        for (int m = 0; m < people(); m++) {
            withSupper += suppers[m] == NONE ? 0 : 1;
            together += pays[m];
        }
        int[] all = {people(), parts(1).length, texts[0].length(), texts[1].length(), withSupper, together, spice,
            loss, finding};
        return what < 0 || what > 8 ? BAD : all[what];
    }
}
