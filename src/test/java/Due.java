/** Gathers the answers of one test that are not as due. */
final class Due {
    static final long BAD_LONG = Long.MIN_VALUE + 2;
    private static int wrong = 0;
    private static String sentence = "";

    private Due() {
    }

    /** The words of the document that the answers from here on stand for; wrong ones are printed with them. */
    static void sentence(String words) {
        sentence = "\"" + words + "\": ";
    }

    static void same(String call, long got, long want) {
        if (got != want) {
            wrong++;
            System.out.println(sentence + call + " answered " + got + ", due is " + want);
        }
    }

    static void fraction(String call, long above, long below, long wantAbove, long wantBelow) {
        same(call + " above", above, wantAbove);
        same(call + " below", below, wantBelow);
    }

    static void holds(String what, boolean isSo) {
        if (!isSo) {
            wrong++;
            System.out.println(sentence + "not so: " + what);
        }
    }

    static void end() {
        if (wrong != 0) {
            System.out.println(wrong + " answers are not as due");
            System.exit(1);
        }
    }

    /** A new object with members and recipes as told. */
    static DreamShares with(String members, String recipes) {
        DreamShares x = new DreamShares();
        type(x, 0, members);
        type(x, 1, recipes);
        return x;
    }

    static void type(DreamShares x, int text, String bytes) {
        for (int i = 0; i < bytes.length(); i++) {
            x.type(text, bytes.charAt(i));
        }
    }

    static void retype(DreamShares x, int text, String bytes) {
        x.wipe(text);
        type(x, text, bytes);
    }
}
