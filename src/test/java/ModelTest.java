import java.util.Arrays;
import java.util.Random;

/** Promises 1 to 36: runs of calls by a fixed seed (or "ModelTest runs seed"), answered as the model answers them. */
public final class ModelTest {
    /** With what types the texts these stay below the 512 calls that an object is used for. */
    private static final int CALLS = 240;
    /** Each call with the ranges of its arguments; one in ten falls outside. How often it comes stands first. */
    private static final String[] CALLED = {
        "1 type 0..1 0..255", "3 type 0..1 48..59", "1 wipe 0..1", "2 undo 0..1", "3 fault 0..1", "3 member 0..5 0..3",
        "3 recipe 0..5 0..2", "4 supper 0..5 -1..3", "3 set 0..1 0..9", "3 pay 0..5 0..12", "1 pay 0..5 0..99",
        "4 dreamt 0..5 -1..3", "3 read 0..3", "3 chance 0..5 0..3 0..1", "3 worth 0..2 0..2 0..2 0..2",
        "1 worth 0..6 0..1 0..1 0..6", "3 made 0..2 0..2 0..2 0..2 0..5", "2 made 0..4 0..2 0..1 0..1 0..5",
        "4 mean 0..63 0..1", "1 share 0..5 0..1", "3 leave", "3 strike 0..63 0..1", "3 best 0..5", "1 menu 1..3 0..2",
        "1 menuMean 1..3 0..1", "3 dread 0..6 0..1", "3 rows 0..2 0..2 0..2 0..2", "3 may 0..2 0..2 0..2 0..2 0..5",
        "3 likeliest 0..2 0..2 0..2 0..2 0..5", "5 kept 0..2 0..2 0..1 0..1", "3 week -2147483648..2147483647 1..60 0..1",
        "3 sheet 0..3 0..2 0..48", "2 sheet 0..3 0..2 0..7", "1 lose 0..3", "3 put 0..3 0..2 0..7 -200..200",
        "2 put 0..3 0..2 0..47 -2147483648..2147483647", "3 get 0..3 0..2 0..7", "3 copy 0..3 0..4 0..3 0..4 0..4",
        "2 copy 0..3 0..48 0..3 0..48 0..48", "3 write -9..9 0..3", "4 count 0..8"};
    private static final int[] ODD = {Integer.MIN_VALUE, -3, -2, -1, 0, 1, 2, 3, 4, 6, 7, 10, 48, 49, 64, 256,
        Integer.MAX_VALUE - 1, Integer.MAX_VALUE};

    private static final Random RANDOM = new Random();
    private static DreamShares real;
    private static Model model;
    private static int run;

    public static void main(String[] args) {
        int runs = args.length > 0 ? Integer.parseInt(args[0]) : 150;
        RANDOM.setSeed(args.length > 1 ? Long.parseLong(args[1]) : 20261118);
        for (run = 0; run < runs; run++) {
            real = new DreamShares();
            model = new Model();
            for (int call = 0; call < CALLS; call++) {
                if (call % 60 == 0) {
                    retype(0, members());
                    retype(1, recipes());
                }
                String[] chosen = choose();
                int[] arguments = new int[chosen.length - 2];
                for (int i = 0; i < arguments.length; i++) {
                    arguments[i] = argument(chosen[i + 2]);
                }
                same(chosen[1], arguments);
            }
            Due.same("run " + run + ": digest", real.digest(), Digest.of(model));
        }
        Due.end();
    }

    private static void same(String name, int... arguments) {
        String call = "run " + run + ": " + name + Arrays.toString(arguments);
        Due.same(call, Calls.ask(real, name, arguments), Calls.ask(model, name, arguments));
    }

    private static void retype(int text, String bytes) {
        same("wipe", text);
        for (int i = 0; i < bytes.length(); i++) {
            same("type", text, (int) bytes.charAt(i));
        }
        same("fault", text);
    }

    private static String members() {
        StringBuilder text = new StringBuilder();
        int number = RANDOM.nextInt(10) == 0 ? 6 : RANDOM.nextInt(6);
        for (int m = 0; m < number; m++) {
            text.append(m > 0 ? ";" : "");
            for (int kind = 0; kind < 4; kind++) {
                text.append(RANDOM.nextInt(3) == 0 ? 0 : RANDOM.nextInt(10));
            }
        }
        return text.toString();
    }

    private static String recipes() {
        StringBuilder text = new StringBuilder();
        int number = RANDOM.nextInt(7);
        for (int r = 0; r < number; r++) {
            text.append(r > 0 ? ";" : "");
            for (int i = RANDOM.nextInt(3) == 0 ? 1 : 0; i < 2; i++) {
                text.append("fwgn".charAt(RANDOM.nextInt(4)));
            }
            text.append(1 + RANDOM.nextInt(RANDOM.nextBoolean() ? 9 : 3));
        }
        return text.toString();
    }

    private static String[] choose() {
        while (true) {
            String[] chosen = CALLED[RANDOM.nextInt(CALLED.length)].split(" ");
            if (RANDOM.nextInt(5) < Integer.parseInt(chosen[0])) {
                return chosen;
            }
        }
    }

    private static int argument(String range) {
        if (RANDOM.nextInt(20) == 0) {
            return ODD[RANDOM.nextInt(ODD.length)];
        }
        String[] ends = range.split("\\.\\.");
        long least = Long.parseLong(ends[0]);
        long most = Long.parseLong(ends[1]);
        return (int) (least + Math.floorMod(RANDOM.nextLong(), most - least + 1));
    }
}
