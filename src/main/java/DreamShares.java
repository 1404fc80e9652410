/** A cooperative that owns what its members dream; README.md tells its use, ../shared/DOC.md each answer. */
public final class DreamShares {
    public static final int NONE = -1, BAD = -2, NOT = -3, FULL = -4;

    private static final int KINDS = 4, NIGHTMARE = 3;
    private static final int MOST_MEMBERS = 6, MOST_RECIPES = 6, MOST_DREAMS = 6, MOST_BYTES = 29;
    private static final int ALL_BITS = 63, MOST_PAY = 99, MOST_NIGHTS = 60, MOST_MENU = 3;
    private static final int SHEETS = 4, FORMS = 3, MOST_ITEMS = 48;
    private static final int NULL_FOUND = 1, INDEX_FOUND = 2, CAST_FOUND = 3, STORE_FOUND = 4, SIZE_FOUND = 5;
    private static final int BAD_NUMBER = -10002;
    private static final int LEAST_INT = 1 << 31;
    private static final long BAD_LONG = (1L << 63) + 2;
    /** Where the pools of 0, 1 .. 6 dreams begin; the last one is how many pools there are. */
    private static final int[] START = {0, 1, 5, 15, 35, 70, 126, 210};
    private static final long[] FACTORIAL = {1, 1, 2, 6, 24, 120, 720};

    private final Text memberText = new Text();
    private final Text recipeText = new Text();
    private final Roster roster = new Roster();
    private final Pools pools = new Pools();
    private final Kitchen kitchen = new Kitchen(pools);
    private final Fold fold = new Fold(pools);
    private final Fraction fraction = new Fraction();
    private final Lots lots = new Lots();
    private final Sheet[] sheets = new Sheet[SHEETS];
    private final int[] suppers = new int[MOST_MEMBERS];
    private final int[] trial = new int[MOST_MEMBERS];
    private final int[] pays = new int[MOST_MEMBERS];
    private final int[] noted = new int[MOST_MEMBERS];
    private final int[] dreams = new int[KINDS];
    /** By bits of members: their mean, times the product of all members' weights, so that all have one divisor. */
    private final long[] means = new long[ALL_BITS + 1];
    private int spice = 3;
    private int loss = 2;
    private int finding = 0;

    public DreamShares() {
        for (int m = 0; m < MOST_MEMBERS; m++) {
            suppers[m] = NONE;
            noted[m] = NONE;
        }
        for (int s = 0; s < SHEETS; s++) {
            sheets[s] = new Sheet();
        }
    }

    // ---- members, recipes

    public int type(int text, int b) {
        if (!isText(text) || b < 0 || b > 255) {
            return BAD;
        }
        if (!textOf(text).append(b)) {
            return FULL;
        }
        parse(text);
        return textOf(text).length;
    }

    public int wipe(int text) {
        if (!isText(text)) {
            return BAD;
        }
        int had = textOf(text).length;
        textOf(text).length = 0;
        parse(text);
        return had;
    }

    public int undo(int text) {
        if (!isText(text)) {
            return BAD;
        }
        if (textOf(text).length == 0) {
            return NOT;
        }
        textOf(text).length--;
        parse(text);
        return textOf(text).length;
    }

    public int fault(int text) {
        if (!isText(text)) {
            return BAD;
        }
        return text == 0 ? roster.faultPlace : kitchen.faultPlace;
    }

    public int member(int member, int kind) {
        if (!isThere(member) || !isKind(kind)) {
            return BAD;
        }
        return roster.told[member * KINDS + kind];
    }

    public int recipe(int recipe, int what) {
        if (!kitchen.has(recipe) || what < 0 || what > 2) {
            return BAD;
        }
        if (what == 0) {
            return kitchen.first[recipe];
        }
        return what == 1 ? kitchen.second[recipe] : kitchen.price[recipe];
    }

    public int supper(int member, int kind) {
        if (!isSeat(member) || !isKindOrNone(kind)) {
            return BAD;
        }
        int was = suppers[member];
        suppers[member] = kind;
        return was;
    }

    public int set(int what, int v) {
        if (what < 0 || what > 1 || v < 0 || v > 9) {
            return BAD;
        }
        int was = what == 0 ? spice : loss;
        if (what == 0) {
            spice = v;
        } else {
            loss = v;
        }
        return was;
    }

    public int pay(int member, int v) {
        if (!isSeat(member) || !isPay(v)) {
            return BAD;
        }
        int was = pays[member];
        pays[member] = v;
        return was;
    }

    public int dreamt(int member, int kind) {
        if (!isSeat(member) || !isKindOrNone(kind)) {
            return BAD;
        }
        int was = noted[member];
        noted[member] = kind;
        return was;
    }

    public int read(int s) {
        if (!isSheet(s)) {
            return BAD;
        }
        Sheet sheet = sheets[s];
        if (sheet.lost) {
            return found(NULL_FOUND);
        }
        int done = 0;
        while (done < MOST_MEMBERS && done < sheet.size && isPay(sheet.items[done])) {
            pays[done] = sheet.items[done];
            done++;
        }
        return done;
    }

    // ---- worth

    public long chance(int member, int kind, int what) {
        if (!isThere(member) || !isKind(kind) || !isFractionPart(what)) {
            return BAD_LONG;
        }
        findChance(member, kind);
        return fraction.part(what);
    }

    public int worth(int f, int w, int g, int n) {
        if (!isSmallPool(f, w, g, n)) {
            return BAD_NUMBER;
        }
        return worthOf(pools.place(f, w, g, n));
    }

    public int made(int f, int w, int g, int n, int recipe) {
        if (!isSmallPool(f, w, g, n) || !kitchen.has(recipe)) {
            return BAD;
        }
        layDreams(f, w, g, n);
        return kitchen.oftenMade(dreams, recipe);
    }

    public long mean(int members, int what) {
        if (!isBits(members) || !isFractionPart(what)) {
            return BAD_LONG;
        }
        findMean(members);
        return fraction.part(what);
    }

    // ---- shares, suppers

    public long share(int member, int what) {
        if (!isThere(member) || !isFractionPart(what)) {
            return BAD_LONG;
        }
        fillMeans();
        findShare(member);
        return fraction.part(what);
    }

    public int leave() {
        fillMeans();
        return leaversByMeans();
    }

    public long strike(int members, int what) {
        if (!isBits(members) || !isFractionPart(what)) {
            return BAD_LONG;
        }
        findStrike(members);
        return fraction.part(what);
    }

    public int best(int member) {
        if (!isThere(member)) {
            return BAD;
        }
        int bit = 1 << member;
        foldWorth(everybody() & ~bit, roster.number);
        int bestDish = NONE;
        long bestAbove = aboveWithDish(member, NONE);
        long bestBelow = weights(member, NONE);
        for (int dish = 0; dish < KINDS; dish++) {
            long above = aboveWithDish(member, dish);
            long below = weights(member, dish);
            if (above * bestBelow > bestAbove * below) {
                bestDish = dish;
                bestAbove = above;
                bestBelow = below;
            }
        }
        return bestDish;
    }

    public int menu(int k, int member) {
        if (!isMenuSize(k) || member < 0 || member >= k) {
            return BAD;
        }
        return dishOf(bestMenu(k), k, member);
    }

    public long menuMean(int k, int what) {
        if (!isMenuSize(k) || !isFractionPart(what)) {
            return BAD_LONG;
        }
        findMenuMean(k);
        return fraction.part(what);
    }

    public long dread(int k, int what) {
        if (k < 0 || k > MOST_DREAMS || !isFractionPart(what)) {
            return BAD_LONG;
        }
        findDread(k);
        return fraction.part(what);
    }

    // ---- totals, weeks

    public int rows(int f, int w, int g, int n) {
        if (!isPool(f, w, g, n)) {
            return BAD;
        }
        if (f + w + g + n != roster.number) {
            return 0;
        }
        fold.layOne(roster.number, pools.place(f, w, g, n));
        foldWays(everybody(), roster.number);
        return (int) fold.values[0];
    }

    public int may(int f, int w, int g, int n, int member) {
        if (!isPool(f, w, g, n) || !isThere(member)) {
            return BAD;
        }
        if (f + w + g + n != roster.number) {
            return 0;
        }
        fold.layOne(roster.number, pools.place(f, w, g, n));
        foldWays(everybody() & ~(1 << member), roster.number);
        int bits = 0;
        for (int kind = 0; kind < KINDS; kind++) {
            if (weight(member, kind, suppers[member]) > 0 && fold.values[pools.with(0, kind)] > 0) {
                bits |= 1 << kind;
            }
        }
        return bits;
    }

    public int likeliest(int f, int w, int g, int n, int member) {
        if (!isPool(f, w, g, n) || !isThere(member)) {
            return BAD;
        }
        if (f + w + g + n != roster.number) {
            return NONE;
        }
        fold.layOne(roster.number, pools.place(f, w, g, n));
        foldGreatest();
        return fold.values[0] > 0 ? kindOnGreatestRow(member) : NONE;
    }

    public int kept(int f, int w, int g, int n) {
        if (!isPool(f, w, g, n)) {
            return BAD;
        }
        layDreams(-f, -w, -g, -n);
        for (int m = 0; m < roster.number; m++) {
            if (noted[m] != NONE) {
                dreams[noted[m]]++;
            }
        }
        int bits = 0;
        for (int m = 0; m < roster.number; m++) {
            if (noted[m] != NONE && isJustOneTooMany(noted[m])) {
                bits |= 1 << m;
            }
        }
        return bits;
    }

    public int week(int seed, int n, int what) {
        if (n < 1 || n > MOST_NIGHTS || what < 0 || what > 1) {
            return BAD_NUMBER;
        }
        lots.seed = seed;
        int together = 0;
        int firstLoss = NONE;
        for (int night = 0; night < n; night++) {
            int value = worthOfNight();
            together += value;
            if (value < 0 && firstLoss == NONE) {
                firstLoss = night;
            }
        }
        return what == 0 ? together : firstLoss;
    }

    // ---- sheets

    public int sheet(int s, int form, int n) {
        if (!isSheet(s) || !isForm(form) || n > MOST_ITEMS) {
            return BAD;
        }
        if (n < 0) {
            return found(SIZE_FOUND);
        }
        sheets[s].renew(form, n);
        return n;
    }

    public int lose(int s) {
        if (!isSheet(s)) {
            return BAD;
        }
        if (sheets[s].lost) {
            return found(NULL_FOUND);
        }
        sheets[s].lost = true;
        return sheets[s].size;
    }

    public int put(int s, int form, int i, int v) {
        if (!isSheet(s) || !isForm(form)) {
            return BAD;
        }
        int wrong = sheets[s].findingAt(form, i);
        if (wrong != 0) {
            return found(wrong);
        }
        sheets[s].store(i, v);
        return 1;
    }

    public int get(int s, int form, int i) {
        if (!isSheet(s) || !isForm(form)) {
            return LEAST_INT;
        }
        int wrong = sheets[s].findingAt(form, i);
        if (wrong != 0) {
            found(wrong);
            return LEAST_INT;
        }
        return sheets[s].items[i];
    }

    public int copy(int s, int i, int t, int j, int n) {
        if (!isSheet(s) || !isSheet(t)) {
            return BAD;
        }
        Sheet from = sheets[s];
        Sheet to = sheets[t];
        if (from.lost || to.lost) {
            return found(NULL_FOUND);
        }
        if (from.form != to.form) {
            return found(STORE_FOUND);
        }
        if (!from.holds(i, n) || !to.holds(j, n)) {
            return found(INDEX_FOUND);
        }
        System.arraycopy(from.items, i, to.items, j, n);
        return 1;
    }

    public int write(int seed, int s) {
        if (!isSheet(s)) {
            return BAD;
        }
        Sheet sheet = sheets[s];
        if (sheet.lost) {
            return found(NULL_FOUND);
        }
        lots.seed = seed;
        for (int night = 0; night < sheet.size; night++) {
            sheet.store(night, worthOfNight());
        }
        return sheet.size;
    }

    public int count(int what) {
        switch (what) {
            case 0: return roster.number;
            case 1: return kitchen.number;
            case 2: return memberText.length;
            case 3: return recipeText.length;
            case 4: return membersWithSupper();
            case 5: return payOf(everybody());
            case 6: return spice;
            case 7: return loss;
            case 8: return finding;
            default: return BAD;
        }
    }

    public long digest() {
        long h = 17;
        for (int what = 0; what <= 7; what++) {
            h = mix(h, count(what));
        }
        h = mix(h, fault(0));
        h = mix(h, fault(1));
        fillMeans();
        for (int m = 0; m < roster.number; m++) {
            h = mixMember(h, m);
        }
        for (int r = 0; r < kitchen.number; r++) {
            h = mixRecipe(h, r);
        }
        h = mix(h, worth(2, 2, 1, 1));
        h = mix(h, worth(0, 0, 0, 6));
        findMean(ALL_BITS);
        h = mixFraction(h);
        h = mix(h, leaversByMeans());
        findStrike(1);
        h = mixFraction(h);
        h = mix(h, menu(1, 0));
        h = mix(h, menuMean(2, 0));
        h = mix(h, menuMean(2, 1));
        findDread(1);
        h = mixFraction(h);
        h = mix(h, rows(1, 1, 1, 0));
        h = mix(h, kept(1, 1, 0, 0));
        h = mix(h, week(7, 9, 0));
        return mix(h, week(7, 9, 1));
    }

    private long mixMember(long hash, int m) {
        long h = hash;
        for (int kind = 0; kind < KINDS; kind++) {
            h = mix(h, member(m, kind));
        }
        findChance(m, 0);
        h = mixFraction(h);
        findMean(1 << m);
        h = mixFraction(h);
        findShare(m);
        h = mixFraction(h);
        h = mix(h, best(m));
        return mix(h, may(1, 1, 1, 0, m));
    }

    private long mixRecipe(long hash, int r) {
        long h = hash;
        for (int what = 0; what <= 2; what++) {
            h = mix(h, recipe(r, what));
        }
        return mix(h, made(2, 2, 1, 1, r));
    }

    private long mixFraction(long h) {
        return mix(mix(h, fraction.above), fraction.below);
    }

    private static long mix(long h, long v) {
        return 31 * h + v;
    }

    // ---- what a number may be

    private static boolean isText(int text) {
        return text == 0 || text == 1;
    }

    private static boolean isSeat(int member) {
        return member >= 0 && member < MOST_MEMBERS;
    }

    private boolean isThere(int member) {
        return member >= 0 && member < roster.number;
    }

    private static boolean isKind(int kind) {
        return kind >= 0 && kind < KINDS;
    }

    private static boolean isKindOrNone(int kind) {
        return kind == NONE || isKind(kind);
    }

    private static boolean isPay(int v) {
        return v >= 0 && v <= MOST_PAY;
    }

    private static boolean isBits(int members) {
        return members >= 0 && members <= ALL_BITS;
    }

    private static boolean isFractionPart(int what) {
        return what == 0 || what == 1;
    }

    private static boolean isDreams(int number) {
        return number >= 0 && number <= MOST_DREAMS;
    }

    private static boolean isPool(int f, int w, int g, int n) {
        return isDreams(f) && isDreams(w) && isDreams(g) && isDreams(n);
    }

    private static boolean isSmallPool(int f, int w, int g, int n) {
        return isPool(f, w, g, n) && f + w + g + n <= MOST_DREAMS;
    }

    private boolean isMenuSize(int k) {
        return k >= 1 && k <= MOST_MENU && k <= roster.number;
    }

    private static boolean isSheet(int s) {
        return s >= 0 && s < SHEETS;
    }

    private static boolean isForm(int form) {
        return form >= 0 && form < FORMS;
    }

    private int found(int number) {
        finding = number;
        return -10 - number;
    }

    // ---- members and what they weigh

    private Text textOf(int text) {
        return text == 0 ? memberText : recipeText;
    }

    private void parse(int text) {
        if (text == 0) {
            roster.parse(memberText);
        } else {
            kitchen.parse(recipeText);
        }
    }

    private int everybody() {
        return (1 << roster.number) - 1;
    }

    private int weight(int member, int kind, int dish) {
        return roster.told[member * KINDS + kind] + (dish == kind ? spice : 0);
    }

    private int weights(int member, int dish) {
        int together = 0;
        for (int kind = 0; kind < KINDS; kind++) {
            together += weight(member, kind, dish);
        }
        return together;
    }

    private long productOfWeights(int set, int[] dishes) {
        long product = 1;
        for (int m = 0; m < roster.number; m++) {
            if ((set >> m & 1) != 0) {
                product *= weights(m, dishes[m]);
            }
        }
        return product;
    }

    private int membersWithSupper() {
        int number = 0;
        for (int m = 0; m < roster.number; m++) {
            if (suppers[m] != NONE) {
                number++;
            }
        }
        return number;
    }

    private int payOf(int set) {
        int together = 0;
        for (int m = 0; m < roster.number; m++) {
            if ((set >> m & 1) != 0) {
                together += pays[m];
            }
        }
        return together;
    }

    // ---- folding what pools are worth back to the empty pool, one member at a time

    private void layDreams(int f, int w, int g, int n) {
        dreams[0] = f;
        dreams[1] = w;
        dreams[2] = g;
        dreams[3] = n;
    }

    private int worthOf(int pool) {
        return kitchen.most[pool] - loss * pools.nightmares[pool];
    }

    private void foldWorth(int set, int size) {
        for (int pool = START[size]; pool < START[size + 1]; pool++) {
            fold.values[pool] = worthOf(pool);
        }
        foldMembers(set, size, suppers);
    }

    private void foldMembers(int set, int size, int[] dishes) {
        int left = size;
        for (int m = roster.number - 1; m >= 0; m--) {
            if ((set >> m & 1) != 0) {
                left--;
                for (int kind = 0; kind < KINDS; kind++) {
                    fold.odds[kind] = weight(m, kind, dishes[m]);
                }
                fold.sumAt(left);
            }
        }
    }

    private void foldWays(int set, int size) {
        int left = size;
        for (int m = roster.number - 1; m >= 0; m--) {
            if ((set >> m & 1) != 0) {
                left--;
                for (int kind = 0; kind < KINDS; kind++) {
                    fold.odds[kind] = weight(m, kind, suppers[m]) > 0 ? 1 : 0;
                }
                fold.sumAt(left);
            }
        }
    }

    private void foldGreatest() {
        for (int m = roster.number - 1; m >= 0; m--) {
            for (int kind = 0; kind < KINDS; kind++) {
                fold.odds[kind] = weight(m, kind, suppers[m]);
            }
            fold.greatestAt(m);
        }
    }

    /** Among like rows the least one takes the first kind that keeps to the greatest chance, from member 0 on. */
    private int kindOnGreatestRow(int member) {
        int pool = 0;
        int taken = NONE;
        for (int m = 0; m <= member; m++) {
            taken = NONE;
            for (int kind = 0; kind < KINDS && taken == NONE; kind++) {
                if (weight(m, kind, suppers[m]) * fold.values[pools.with(pool, kind)] == fold.values[pool]) {
                    taken = kind;
                }
            }
            if (taken == NONE) {
                return NONE;
            }
            pool = pools.with(pool, taken);
        }
        return taken;
    }

    // ---- fractions

    private void findChance(int member, int kind) {
        fraction.become(weight(member, kind, suppers[member]), weights(member, suppers[member]));
    }

    private long meanTimesAllWeights(int set) {
        foldWorth(set, Integer.bitCount(set));
        return fold.values[0] * productOfWeights(everybody() & ~set, suppers);
    }

    private void findMean(int bits) {
        fraction.become(meanTimesAllWeights(bits & everybody()), productOfWeights(everybody(), suppers));
    }

    private void fillMeans() {
        for (int set = 0; set <= everybody(); set++) {
            means[set] = meanTimesAllWeights(set);
        }
    }

    /** Of all rows in which they come, those with just this set ahead of the member: the set's rows times the rest's. */
    private void findShare(int member) {
        int others = roster.number - 1;
        int bit = 1 << member;
        long above = 0;
        for (int set = 0; set <= everybody(); set++) {
            if ((set & bit) == 0) {
                int ahead = Integer.bitCount(set);
                above += FACTORIAL[ahead] * FACTORIAL[others - ahead] * (means[set | bit] - means[set]);
            }
        }
        fraction.become(above, FACTORIAL[roster.number] * productOfWeights(everybody(), suppers));
    }

    private int leaversByMeans() {
        long divisor = productOfWeights(everybody(), suppers);
        int leavers = NONE;
        for (int set = 1; set <= everybody(); set++) {
            boolean fewer = leavers == NONE || Integer.bitCount(set) < Integer.bitCount(leavers);
            if (fewer && means[set] > payOf(set) * divisor) {
                leavers = set;
            }
        }
        return leavers;
    }

    private void findStrike(int bits) {
        long all = meanTimesAllWeights(everybody());
        long without = meanTimesAllWeights(everybody() & ~bits);
        fraction.become(all - without, productOfWeights(everybody(), suppers));
    }

    private void findDread(int k) {
        int size = roster.number;
        for (int pool = START[size]; pool < START[size + 1]; pool++) {
            fold.values[pool] = pools.nightmares[pool] >= k ? 1 : 0;
        }
        foldMembers(everybody(), size, suppers);
        fraction.become(fold.values[0], productOfWeights(everybody(), suppers));
    }

    // ---- suppers on trial

    /** The fold must stand at pools of one dream, that of this member. */
    private long aboveWithDish(int member, int dish) {
        long above = 0;
        for (int kind = 0; kind < KINDS; kind++) {
            above += weight(member, kind, dish) * fold.values[pools.with(0, kind)];
        }
        return above;
    }

    /** A menu is a number of k digits by 4, member 0 first, so that the least number is the least row. */
    private static int dishOf(int menu, int k, int member) {
        return menu >> 2 * (k - 1 - member) & 3;
    }

    /** Every menu of k has the same divisor, so the numbers above decide. */
    private int bestMenu(int k) {
        foldWorth(everybody() & -(1 << k), roster.number);
        int bestOne = 0;
        long bestAbove = aboveWithMenu(k, 0);
        for (int menu = 1; menu < 1 << 2 * k; menu++) {
            long above = aboveWithMenu(k, menu);
            if (above > bestAbove) {
                bestOne = menu;
                bestAbove = above;
            }
        }
        return bestOne;
    }

    /** The fold must stand at pools of k dreams, those of members 0 to k less 1, and stands there afterwards. */
    private long aboveWithMenu(int k, int menu) {
        layTrial(k, menu);
        foldMembers((1 << k) - 1, k, trial);
        return fold.values[0];
    }

    private void layTrial(int k, int menu) {
        for (int m = 0; m < MOST_MEMBERS; m++) {
            trial[m] = m < k ? dishOf(menu, k, m) : suppers[m];
        }
    }

    private void findMenuMean(int k) {
        int menu = bestMenu(k);
        fraction.become(aboveWithMenu(k, menu), productOfWeights(everybody(), trial));
    }

    // ---- totals and weeks

    /** The dreams laid out are those noted less the pool told. */
    private boolean isJustOneTooMany(int kind) {
        for (int other = 0; other < KINDS; other++) {
            if (dreams[other] != (other == kind ? 1 : 0)) {
                return false;
            }
        }
        return true;
    }

    private int worthOfNight() {
        int pool = 0;
        for (int m = 0; m < roster.number; m++) {
            pool = pools.with(pool, kindByLot(m));
        }
        return worthOf(pool);
    }

    private int kindByLot(int member) {
        int lot = lots.draw(weights(member, suppers[member]));
        int kind = 0;
        while (kind < NIGHTMARE && lot >= weight(member, kind, suppers[member])) {
            lot -= weight(member, kind, suppers[member]);
            kind++;
        }
        return kind;
    }

    private static boolean isFigure(int b, int least) {
        return b >= '0' + least && b <= '9';
    }

    private static int kindOfLetter(int b) {
        switch (b) {
            case 'f': return 0;
            case 'w': return 1;
            case 'g': return 2;
            case 'n': return 3;
            default: return NONE;
        }
    }

    private static final class Text {
        final int[] bytes = new int[MOST_BYTES];
        int length = 0;

        boolean append(int b) {
            if (length >= MOST_BYTES) {
                return false;
            }
            bytes[length] = b;
            length++;
            return true;
        }
    }

    /** Members as their text tells them; nobody where it has a fault. */
    private static final class Roster {
        private static final int STEP = KINDS + 1;
        final int[] told = new int[MOST_MEMBERS * KINDS];
        int number = 0;
        int faultPlace = NONE;

        void parse(Text text) {
            faultPlace = NONE;
            int sum = 0;
            for (int i = 0; i < text.length && faultPlace == NONE; i++) {
                int figure = i % STEP;
                sum = figure == 0 ? 0 : sum;
                if (!fits(text.bytes[i], figure) || i / STEP >= MOST_MEMBERS) {
                    faultPlace = i;
                } else if (figure < KINDS) {
                    sum += text.bytes[i] - '0';
                    told[i / STEP * KINDS + figure] = text.bytes[i] - '0';
                    faultPlace = figure == KINDS - 1 && sum == 0 ? i : NONE;
                }
            }
            if (faultPlace == NONE && text.length > 0 && text.length % STEP != KINDS) {
                faultPlace = text.length;
            }
            number = faultPlace == NONE ? (text.length + 1) / STEP : 0;
        }

        private static boolean fits(int b, int figure) {
            return figure == KINDS ? b == ';' : isFigure(b, 0);
        }
    }

    /** Recipes as their text tells them, none where it has a fault, and what pools bring by them. */
    private static final class Kitchen {
        private static final int AT_FIRST = 0, AT_SECOND = 1, AT_PRICE = 2, AT_END = 3;
        final int[] first = new int[MOST_RECIPES];
        final int[] second = new int[MOST_RECIPES];
        final int[] price = new int[MOST_RECIPES];
        int number = 0;
        int faultPlace = NONE;
        /** By pool: the most that its prices are together. */
        final int[] most = new int[START[MOST_DREAMS + 1]];
        private final Pools pools;
        private int state = AT_FIRST;

        Kitchen(Pools pools) {
            this.pools = pools;
        }

        boolean has(int recipe) {
            return recipe >= 0 && recipe < number;
        }

        void parse(Text text) {
            boolean hadSome = number > 0;
            faultPlace = NONE;
            number = 0;
            state = AT_FIRST;
            for (int i = 0; i < text.length && faultPlace == NONE; i++) {
                faultPlace = goesOn(text.bytes[i]) ? NONE : i;
            }
            if (faultPlace == NONE && text.length > 0 && state != AT_END) {
                faultPlace = text.length;
            }
            number = faultPlace == NONE ? number : 0;
            if (hadSome || number > 0) {
                fillMost();
            }
        }

        private boolean goesOn(int b) {
            if (state == AT_END) {
                state = AT_FIRST;
                return b == ';';
            }
            if (state != AT_PRICE && kindOfLetter(b) != NONE) {
                return takeLetter(kindOfLetter(b));
            }
            return state != AT_FIRST && isFigure(b, 1) && takePrice(b - '0');
        }

        private boolean takeLetter(int kind) {
            if (number >= MOST_RECIPES) {
                return false;
            }
            if (state == AT_FIRST) {
                first[number] = kind;
                second[number] = NONE;
                state = AT_SECOND;
            } else {
                second[number] = kind;
                state = AT_PRICE;
            }
            return true;
        }

        private boolean takePrice(int figure) {
            if (number >= MOST_RECIPES) {
                return false;
            }
            price[number] = figure;
            number++;
            state = AT_END;
            return true;
        }

        /** Each best row of recipes begins with the dreams that it leaves over, which bring 0, and adds to these. */
        private void fillMost() {
            for (int pool = 0; pool < most.length; pool++) {
                most[pool] = 0;
            }
            for (int pool = 0; pool < START[MOST_DREAMS]; pool++) {
                for (int r = 0; r < number; r++) {
                    raise(withRecipe(pool, r), most[pool] + price[r]);
                }
            }
        }

        private void raise(int pool, int value) {
            if (pool != NONE && most[pool] < value) {
                most[pool] = value;
            }
        }

        private int withRecipe(int pool, int r) {
            int one = pools.with(pool, first[r]);
            return second[r] == NONE ? one : pools.with(one, second[r]);
        }

        /** A recipe that can be in a best row at all is taken as often as it can, from recipe 0 on; uses up the dreams. */
        int oftenMade(int[] dreams, int recipe) {
            int often = 0;
            for (int r = 0; r <= recipe && r < number; r++) {
                often = 0;
                while (often < MOST_DREAMS && isMadeOnce(dreams, r)) {
                    often++;
                }
            }
            return often;
        }

        private boolean isMadeOnce(int[] dreams, int r) {
            int before = mostOf(dreams);
            addRecipe(dreams, r, -1);
            boolean enough = dreams[first[r]] >= 0 && (second[r] == NONE || dreams[second[r]] >= 0);
            if (enough && mostOf(dreams) + price[r] == before) {
                return true;
            }
            addRecipe(dreams, r, 1);
            return false;
        }

        private int mostOf(int[] dreams) {
            return most[pools.place(dreams[0], dreams[1], dreams[2], dreams[3])];
        }

        private void addRecipe(int[] dreams, int r, int times) {
            dreams[first[r]] += times;
            if (second[r] != NONE) {
                dreams[second[r]] += times;
            }
        }
    }

    /** Pools of 0 to 6 dreams have places 0 to 209, those of fewer dreams first, so that each size is one stretch. */
    private static final class Pools {
        final int[] nightmares = new int[START[MOST_DREAMS + 1]];
        /** By place and kind: the pool with one dream more. */
        final int[] next = new int[START[MOST_DREAMS] * KINDS];

        Pools() {
            for (int size = 0; size <= MOST_DREAMS; size++) {
                for (int f = 0; f <= size; f++) {
                    for (int w = 0; f + w <= size; w++) {
                        for (int g = 0; f + w + g <= size; g++) {
                            enter(f, w, g, size - f - w - g);
                        }
                    }
                }
            }
        }

        private void enter(int f, int w, int g, int n) {
            int pool = place(f, w, g, n);
            nightmares[pool] = n;
            if (pool < START[MOST_DREAMS]) {
                next[pool * KINDS] = place(f + 1, w, g, n);
                next[pool * KINDS + 1] = place(f, w + 1, g, n);
                next[pool * KINDS + 2] = place(f, w, g + 1, n);
                next[pool * KINDS + 3] = place(f, w, g, n + 1);
            }
        }

        /** How many pools stand ahead: of fewer dreams, then of fewer w, g, n, then of fewer g, n, then of fewer n. */
        int place(int f, int w, int g, int n) {
            int two = g + n;
            int three = w + two;
            int four = f + three;
            return four * (four + 1) * (four + 2) * (four + 3) / 24
                + three * (three + 1) * (three + 2) / 6 + two * (two + 1) / 2 + n;
        }

        /** The pool with one dream more; NONE above six. */
        int with(int pool, int kind) {
            return pool >= 0 && pool < START[MOST_DREAMS] ? next[pool * KINDS + kind] : NONE;
        }
    }

    /** Values of pools, carried from pools of one size to those of one dream less, by the odds of that dream. */
    private static final class Fold {
        final long[] values = new long[START[MOST_DREAMS + 1]];
        final int[] odds = new int[KINDS];
        private final Pools pools;

        Fold(Pools pools) {
            this.pools = pools;
        }

        void layOne(int size, int target) {
            for (int pool = START[size]; pool < START[size + 1]; pool++) {
                values[pool] = pool == target ? 1 : 0;
            }
        }

        /** The dearest loop of all: it reads the table of pools itself, as a call for each kind would cost more. */
        void sumAt(int size) {
            if (size < 0 || size >= MOST_DREAMS) {
                return;
            }
            int[] next = pools.next;
            for (int pool = START[size]; pool < START[size + 1]; pool++) {
                int at = pool * KINDS;
                values[pool] = odds[0] * values[next[at]] + odds[1] * values[next[at + 1]]
                    + odds[2] * values[next[at + 2]] + odds[3] * values[next[at + 3]];
            }
        }

        void greatestAt(int size) {
            if (size < 0 || size >= MOST_DREAMS) {
                return;
            }
            for (int pool = START[size]; pool < START[size + 1]; pool++) {
                long greatest = 0;
                for (int kind = 0; kind < KINDS; kind++) {
                    greatest = Math.max(greatest, odds[kind] * values[pools.next[pool * KINDS + kind]]);
                }
                values[pool] = greatest;
            }
        }
    }

    private static final class Fraction {
        /** Far above the steps that any two longs can need. */
        private static final int MOST_STEPS = 200;
        long above = 0;
        long below = 1;

        void become(long newAbove, long newBelow) {
            long divisor = commonDivisor(Math.abs(newAbove), newBelow);
            above = divisor > 0 ? newAbove / divisor : newAbove;
            below = divisor > 0 ? newBelow / divisor : newBelow;
        }

        private static long commonDivisor(long one, long two) {
            long a = one;
            long b = two;
            for (int step = 0; step < MOST_STEPS && b != 0; step++) {
                long rest = a % b;
                a = b;
                b = rest;
            }
            return a;
        }

        long part(int what) {
            return what == 0 ? above : below;
        }
    }

    private static final class Lots {
        int seed = 0;

        int draw(int m) {
            seed = 1103515245 * seed + 12345;
            return m > 0 ? (seed >>> 16) % m : 0;
        }
    }

    private static final class Sheet {
        final int[] items = new int[MOST_ITEMS];
        int form = 0;
        int size = 0;
        boolean lost = true;

        void renew(int newForm, int newSize) {
            lost = false;
            form = newForm;
            size = newSize;
            for (int i = 0; i < newSize; i++) {
                items[i] = 0;
            }
        }

        int findingAt(int askedForm, int i) {
            if (lost) {
                return NULL_FOUND;
            }
            if (form != askedForm) {
                return CAST_FOUND;
            }
            return i < 0 || i >= size ? INDEX_FOUND : 0;
        }

        /** Subtracts rather than adds, as i and n may be the greatest ints. */
        boolean holds(int i, int n) {
            return i >= 0 && n >= 0 && n <= size && i <= size - n;
        }

        void store(int i, int v) {
            if (form == 0) {
                items[i] = (byte) v;
            } else {
                items[i] = form == 1 ? (short) v : v;
            }
        }
    }
}
