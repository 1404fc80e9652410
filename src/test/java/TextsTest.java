/** Promises 1 to 5: a new object, type, wipe, undo, fault. */
public final class TextsTest {
    public static void main(String[] args) {
        newObject();
        typing();
        typingRefused();
        wiping();
        undoing();
        faultsOfMembers();
        faultsOfRecipes();
        faultyTextIsEmpty();
        Due.end();
    }

    private static void newObject() {
        DreamShares x = new DreamShares();
        int[] counts = {0, 0, 0, 0, 0, 0, 3, 2, 0};
        for (int what = 0; what < counts.length; what++) {
            Due.same("new count(" + what + ")", x.count(what), counts[what]);
        }
        for (int s = 0; s < 4; s++) {
            Due.same("new lose(" + s + ")", x.lose(s), -11);
        }
        for (int m = 0; m < 6; m++) {
            Due.same("new supper", x.supper(m, 0), -1);
            Due.same("new pay", x.pay(m, 1), 0);
            Due.same("new dreamt", x.dreamt(m, 0), -1);
        }
        Due.same("new fault(0)", x.fault(0), -1);
        Due.same("new fault(1)", x.fault(1), -1);
    }

    private static void typing() {
        for (int text = 0; text < 2; text++) {
            DreamShares x = new DreamShares();
            for (int i = 1; i <= 29; i++) {
                Due.same("type byte " + i, x.type(text, i == 1 ? 0 : 255), i);
            }
            Due.same("type 30th", x.type(text, 49), -4);
            Due.same("count after FULL", x.count(2 + text), 29);
            Due.same("the other text", x.count(3 - text), 0);
        }
    }

    private static void typingRefused() {
        DreamShares x = new DreamShares();
        int[] texts = {-1, 2, Integer.MIN_VALUE, Integer.MAX_VALUE};
        for (int text : texts) {
            Due.same("type(" + text + ", 49)", x.type(text, 49), -2);
            Due.same("wipe(" + text + ")", x.wipe(text), -2);
            Due.same("undo(" + text + ")", x.undo(text), -2);
            Due.same("fault(" + text + ")", x.fault(text), -2);
        }
        Due.same("type(0, -1)", x.type(0, -1), -2);
        Due.same("type(0, 256)", x.type(0, 256), -2);
        Due.same("type(1, min)", x.type(1, Integer.MIN_VALUE), -2);
        Due.same("nothing came", x.count(2) + x.count(3), 0);
        Due.type(x, 0, "1111;1111;1111;1111;1111;1111");
        Due.same("BAD goes ahead of FULL", x.type(0, 256), -2);
        Due.same("FULL", x.type(0, 59), -4);
        Due.same("FULL changes nothing", x.count(0), 6);
    }

    private static void wiping() {
        DreamShares x = Due.with("1234;0001", "f1");
        Due.same("wipe(0)", x.wipe(0), 9);
        Due.same("nobody", x.count(0), 0);
        Due.same("no bytes", x.count(2), 0);
        Due.same("recipes stay", x.count(1), 1);
        Due.same("wipe(0) again", x.wipe(0), 0);
        Due.same("wipe(1)", x.wipe(1), 2);
        Due.same("no recipes", x.count(1), 0);
    }

    private static void undoing() {
        DreamShares x = Due.with("1234;1", "f1;");
        Due.same("undo(0)", x.undo(0), 5);
        Due.same("undo(0)", x.undo(0), 4);
        Due.same("one is there", x.count(0), 1);
        Due.same("undo(0)", x.undo(0), 3);
        Due.same("nobody", x.count(0), 0);
        Due.same("type(0, 57)", x.type(0, 57), 4);
        Due.same("another weight", x.member(0, 3), 9);
        Due.same("undo(1)", x.undo(1), 2);
        Due.same("a recipe", x.count(1), 1);
        Due.same("undo(1)", x.undo(1), 1);
        Due.same("undo(1)", x.undo(1), 0);
        Due.same("undo(1) of none", x.undo(1), -3);
        Due.same("fault(1)", x.fault(1), -1);
    }

    private static void fault(int text, String bytes, int want) {
        DreamShares x = new DreamShares();
        Due.type(x, text, bytes);
        Due.same("fault of text " + text + " \"" + bytes + "\"", x.fault(text), want);
    }

    private static void faultsOfMembers() {
        fault(0, "", -1);
        fault(0, "1", 1);
        fault(0, "12", 2);
        fault(0, "123", 3);
        fault(0, "000", 3);
        fault(0, "1234", -1);
        fault(0, "0009", -1);
        fault(0, "9000", -1);
        fault(0, "0000", 3);
        fault(0, "0000;", 3);
        fault(0, "00000", 3);
        fault(0, "1234;", 5);
        fault(0, "1234;;", 5);
        fault(0, "12345", 4);
        fault(0, ";", 0);
        fault(0, "1;", 1);
        fault(0, "12/4", 2);
        fault(0, "12:4", 2);
        fault(0, "f", 0);
        fault(0, "1000;0000", 8);
        fault(0, "1000;000", 8);
        fault(0, "1000;0x00", 6);
        fault(0, "1000;0100;0010;0001;1111;9999", -1);
        fault(0, "1000;0100;0010;0001;1111;0000", 28);
        fault(0, "1000;0100;0010;0001;1111;999", 28);
        fault(0, "1000;0100;0010;0001;1111;999;", 28);
    }

    private static void faultsOfRecipes() {
        fault(1, "", -1);
        fault(1, "f", 1);
        fault(1, "fw", 2);
        fault(1, "f1", -1);
        fault(1, "fw1", -1);
        fault(1, "nn9", -1);
        fault(1, "gw5;n1", -1);
        fault(1, "f0", 1);
        fault(1, "fw0", 2);
        fault(1, "fwg1", 2);
        fault(1, "f:", 1);
        fault(1, "x1", 0);
        fault(1, "1", 0);
        fault(1, ";", 0);
        fault(1, "F1", 0);
        fault(1, "f;", 1);
        fault(1, "f11", 2);
        fault(1, "f1f", 2);
        fault(1, "f1;", 3);
        fault(1, "f1;;", 3);
        fault(1, "f1;w", 4);
        fault(1, "f1;w2;g3;n4;fw5;gn6", -1);
        fault(1, "f1;w2;g3;n4;f5;g6;", 18);
        fault(1, "f1;w2;g3;n4;f5;g6;f", 18);
        fault(1, "f1;w2;g3;n4;f5;g6;f1", 18);
        fault(1, "f1;w2;g3;n4;f5;g6;x", 18);
        fault(1, "f1;w2;g3;n4;f5;g6f", 17);
        fault(1, "ff1;ww2;gg3;nn4;fw5;wg6;gn7", 24);
        fault(1, "ff1;ww2;gg3;nn4;fw5;wg6", -1);
    }

    private static void faultyTextIsEmpty() {
        DreamShares x = Due.with("1000;0100;00", "f5;w");
        Due.same("nobody with a fault", x.count(0), 0);
        Due.same("no recipes with a fault", x.count(1), 0);
        Due.same("bytes are there", x.count(2), 12);
        Due.same("bytes are there", x.count(3), 4);
        Due.same("member(0, 0)", x.member(0, 0), -2);
        Due.same("recipe(0, 0)", x.recipe(0, 0), -2);
        Due.same("worth", x.worth(1, 0, 0, 0), 0);
        Due.same("mean", x.mean(1, 0), 0);
        Due.type(x, 1, "2");
        Due.same("worth when it is mended", x.worth(1, 1, 0, 0), 7);
        Due.type(x, 0, "01");
        Due.same("mean when it is mended", x.mean(3, 0), 7);
    }
}
