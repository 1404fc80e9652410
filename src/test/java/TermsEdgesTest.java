import java.util.function.IntPredicate;

/** The edges that the document names under "Terms" ahead of its section 2: one test for each sentence or part of one. */
public final class TermsEdgesTest {
    public static void main(String[] args) {
        kindsHaveFourLetters();
        membersFillTheirText();
        membersHaveSemicolonsBetween();
        membersHaveFourFigures();
        memberNeedsOneWeight();
        recipesFillTheirText();
        recipesAreSixAtMost();
        recipesHaveSemicolonsBetween();
        recipesHaveOneOrTwoLetters();
        pricesAreOneToNine();
        faultIsTheFirst();
        emptyTextIsWell();
        textThatIsNotEnded();
        fourthFigureIsTheFault();
        firstByteOfASeventh();
        faultyMembersAreNobody();
        faultyRecipesAreNone();
        supperIsNoneAtFirst();
        spiceIsThreeAtFirst();
        dreamsAreForOneThing();
        pricesAreTheMost();
        lossIsTwoAtFirst();
        fractionsInLowestTerms();
        lotsWrap();
        sheetsAreLostAtFirst();
        sheetsHaveThreeForms();
        sheetsHoldUpTo48();
        findingsTellTheirNumber();
        refusalsInTheirOrder();
        refusalsChangeNothing();
        questionsChangeNothing();
        refusedLongs();
        refusedNumbers();
        objectOf512Calls();
        Due.end();
    }

    private static DreamShares typed(int text, String bytes) {
        DreamShares x = new DreamShares();
        Due.type(x, text, bytes);
        return x;
    }

    private static void fault(int text, String bytes, int want) {
        Due.same("fault of text " + text + " \"" + bytes + "\"", typed(text, bytes).fault(text), want);
    }

    /** Of all bytes just these can come behind the ahead ones: then the place is behind them, or none. */
    private static void goesOn(int text, String ahead, IntPredicate can) {
        int place = ahead.length();
        for (int b = 0; b <= 255; b++) {
            DreamShares x = typed(text, ahead);
            x.type(text, b);
            Due.holds("byte " + b + " behind \"" + ahead + "\" of text " + text, (x.fault(text) != place) == can.test(b));
        }
    }

    private static void kindsHaveFourLetters() {
        Due.sentence("KINDS of dreams are f flying, w water, g gold, n a nightmare (0 to 3)");
        goesOn(1, "", b -> b == 'f' || b == 'w' || b == 'g' || b == 'n');
        for (int kind = 0; kind < 4; kind++) {
            DreamShares x = typed(1, "fwgn".charAt(kind) + "1");
            Due.same("the number of a letter", x.recipe(0, 0), kind);
        }
    }

    private static void membersFillTheirText() {
        Due.sentence("MEMBERS are a text of up to 29 bytes (text 0), 6 at most (0 on)");
        DreamShares x = new DreamShares();
        for (int i = 0; i < 29; i++) {
            Due.same("members", x.count(0), (i + 1) % 5 == 0 ? (i + 1) / 5 : 0);
            Due.same("byte " + i, x.type(0, Edge.FULL_MEMBERS.charAt(i)), i + 1);
        }
        Due.same("all six", x.count(0), 6);
        Due.same("the first weight of the first", x.member(0, 0), 1);
        Due.same("the last weight of the last", x.member(5, 3), 9);
        Due.same("there is no seventh", x.member(6, 0), -2);
        Due.same("a thirtieth byte", x.type(0, '1'), -4);
        Due.same("all six", x.count(0), 6);
    }

    private static void membersHaveSemicolonsBetween() {
        Due.sentence("MEMBERS ... with ; between them");
        goesOn(0, "1234", b -> b == ';');
        goesOn(0, "1234;1234", b -> b == ';');
        fault(0, ";", 0);
        fault(0, ";1234", 0);
        fault(0, "1234;;1234", 5);
        fault(0, "12341234", 4);
        fault(0, "1234;1234", -1);
    }

    private static void membersHaveFourFigures() {
        Due.sentence("four figures, the WEIGHT of each KIND (0 to 9");
        for (String ahead : new String[] {"", "1", "11", "111", "1111;", "1111;0", "1111;10", "1111;100"}) {
            goesOn(0, ahead, b -> b >= '0' && b <= '9');
        }
        fault(0, "0019", -1);
        fault(0, "9999", -1);
        DreamShares x = typed(0, "0909");
        Due.same("the least weight", x.member(0, 0), 0);
        Due.same("the greatest weight", x.member(0, 1), 9);
    }

    private static void memberNeedsOneWeight() {
        Due.sentence("one at least above 0");
        for (String one : new String[] {"1000", "0100", "0010", "0001"}) {
            fault(0, one, -1);
            Due.same("members by " + one, typed(0, one).count(0), 1);
        }
        Due.same("members by 0000", typed(0, "0000").count(0), 0);
        Due.same("members by 1000;0000", typed(0, "1000;0000").count(0), 0);
    }

    private static void recipesFillTheirText() {
        Due.sentence("RECIPES are a text of up to 29 bytes (text 1)");
        DreamShares x = new DreamShares();
        for (int i = 0; i < 29; i++) {
            Due.same("byte " + i, x.type(1, Edge.FULL_RECIPES.charAt(i)), i + 1);
        }
        Due.same("a thirtieth byte", x.type(1, 'f'), -4);
        Due.same("bytes", x.count(3), 29);
    }

    private static void recipesAreSixAtMost() {
        Due.sentence("RECIPES ... 6 at most (0 on), with ; between them");
        DreamShares x = typed(1, "ff1;ww2;gg3;nn4;fw5;wg6");
        Due.same("all six", x.count(1), 6);
        Due.same("the first one", x.recipe(0, 2), 1);
        Due.same("the last one", x.recipe(5, 2), 6);
        Due.same("there is no seventh", x.recipe(6, 2), -2);
        Due.type(x, 1, ";f1");
        Due.same("none by seven", x.count(1), 0);
        Due.same("none by seven short ones", typed(1, "f1;f1;f1;f1;f1;f1;f1").count(1), 0);
    }

    private static void recipesHaveSemicolonsBetween() {
        Due.sentence("RECIPES ... with ; between them");
        goesOn(1, "f1", b -> b == ';');
        goesOn(1, "fw1", b -> b == ';');
        goesOn(1, "f1;g2", b -> b == ';');
        fault(1, ";", 0);
        fault(1, ";f1", 0);
        fault(1, "f1;;f1", 3);
        fault(1, "f1f1", 2);
        fault(1, "f1;f1", -1);
    }

    private static void recipesHaveOneOrTwoLetters() {
        Due.sentence("one or two letters of KINDS (perhaps alike), and a figure");
        fault(1, "1", 0);
        fault(1, "f1", -1);
        fault(1, "fw1", -1);
        fault(1, "nn1", -1);
        fault(1, "fwg1", 2);
        fault(1, "fff1", 2);
        for (String letter : new String[] {"f", "w", "g", "n"}) {
            goesOn(1, letter, b -> b == 'f' || b == 'w' || b == 'g' || b == 'n' || b >= '1' && b <= '9');
        }
    }

    private static void pricesAreOneToNine() {
        Due.sentence("the PRICE (1 to 9)");
        goesOn(1, "fw", b -> b >= '1' && b <= '9');
        goesOn(1, "f1;gg", b -> b >= '1' && b <= '9');
        fault(1, "f0", 1);
        Due.same("the least price", typed(1, "f1").recipe(0, 2), 1);
        Due.same("the greatest price", typed(1, "f9").recipe(0, 2), 9);
        fault(1, "f10", 2);
    }

    private static void faultIsTheFirst() {
        Due.sentence("The FAULT of a text is the place of the first byte with which it cannot go on");
        fault(0, "x", 0);
        fault(0, "1x3x", 1);
        fault(0, "1234x678x", 4);
        fault(0, "0000;x", 3);
        fault(0, "x000;0000", 0);
        fault(1, "xx", 0);
        fault(1, "f0;x", 1);
        fault(1, "fw1;gx;0", 5);
    }

    private static void emptyTextIsWell() {
        Due.sentence("an empty one is well");
        for (int text = 0; text < 2; text++) {
            DreamShares x = new DreamShares();
            Due.same("new", x.fault(text), -1);
            x.type(text, 'x');
            x.undo(text);
            Due.same("undone", x.fault(text), -1);
            Due.type(x, text, "xyz");
            x.wipe(text);
            Due.same("wiped", x.fault(text), -1);
        }
    }

    private static void faultsOfPrefixes(int text, String bytes, int... want) {
        for (int length = 0; length < want.length; length++) {
            fault(text, bytes.substring(0, length), want[length]);
        }
    }

    private static void textThatIsNotEnded() {
        Due.sentence("of one that is not ended, its end");
        faultsOfPrefixes(0, "1234;5678", -1, 1, 2, 3, -1, 5, 6, 7, 8, -1);
        faultsOfPrefixes(0, "0001;0010", -1, 1, 2, 3, -1, 5, 6, 7, 8, -1);
        faultsOfPrefixes(1, "fw7;g3;nn1", -1, 1, 2, -1, 4, 5, -1, 7, 8, 9, -1);
        fault(0, "1000;0100;0010;0001;1111;999", 28);
        fault(0, "1000;0100;0010;0001;1111;", 25);
        fault(1, "f1;f1;f1;f1;f1;f1;", 18);
        fault(1, "ff1;ff1;ff1;ff1;ff1;ff1;", 24);
    }

    private static void fourthFigureIsTheFault() {
        Due.sentence("here also of the fourth figure of a MEMBER without any WEIGHT");
        faultsOfPrefixes(0, "0000;", -1, 1, 2, 3, 3, 3);
        fault(0, "1000;0000", 8);
        fault(0, "1000;0000;0000", 8);
        fault(0, "1000;0100;0010;0001;1111;0000", 28);
        fault(0, "000x", 3);
    }

    private static void firstByteOfASeventh() {
        Due.sentence("or of the first byte of a seventh");
        fault(1, "f1;f1;f1;f1;f1;f1;f", 18);
        fault(1, "f1;f1;f1;f1;f1;f1;f1", 18);
        fault(1, "f1;f1;f1;f1;f1;f1;f1;f1", 18);
        fault(1, "ff1;ff1;ff1;ff1;ff1;ff1;f", 24);
        fault(1, Edge.FULL_RECIPES, 24);
        fault(1, "f1;f1;f1;f1;f1;f1x", 17);
        fault(1, "f1;f1;f1;f1;f1;f1", -1);
    }

    private static DreamShares busyWith(String members, String recipes) {
        DreamShares x = Edge.busy();
        Due.retype(x, 0, members);
        Due.retype(x, 1, recipes);
        return x;
    }

    /** All that is told by members or recipes, answered as by an empty text. */
    private static void likeEmpty(DreamShares x, DreamShares empty) {
        for (int what : new int[] {0, 1, 4, 5, 6, 7, 8}) {
            Due.same("count(" + what + ")", x.count(what), empty.count(what));
        }
        for (int m = 0; m < 6; m++) {
            Due.same("member", x.member(m, 0), empty.member(m, 0));
            Due.same("recipe", x.recipe(m, 0), empty.recipe(m, 0));
            Due.same("chance", x.chance(m, 0, 0), empty.chance(m, 0, 0));
            Due.same("made", x.made(1, 1, 1, 2, m), empty.made(1, 1, 1, 2, m));
            Due.same("share", x.share(m, 0), empty.share(m, 0));
            Due.same("best", x.best(m), empty.best(m));
            Due.same("may", x.may(0, 0, 0, 0, m), empty.may(0, 0, 0, 0, m));
            Due.same("likeliest", x.likeliest(0, 0, 0, 0, m), empty.likeliest(0, 0, 0, 0, m));
        }
        for (int k = 1; k <= 3; k++) {
            Due.same("menu", x.menu(k, 0), empty.menu(k, 0));
            Due.same("menuMean", x.menuMean(k, 0), empty.menuMean(k, 0));
            Due.same("dread", x.dread(k, 0), empty.dread(k, 0));
        }
        Due.same("worth", x.worth(2, 1, 1, 2), empty.worth(2, 1, 1, 2));
        Due.same("mean", x.mean(63, 0), empty.mean(63, 0));
        Due.same("leave", x.leave(), empty.leave());
        Due.same("strike", x.strike(63, 0), empty.strike(63, 0));
        Due.same("rows", x.rows(0, 0, 0, 0), empty.rows(0, 0, 0, 0));
        Due.same("kept", x.kept(1, 0, 0, 0), empty.kept(1, 0, 0, 0));
        Due.same("week", x.week(5, 60, 0), empty.week(5, 60, 0));
    }

    private static void faultyMembersAreNobody() {
        Due.sentence("With a FAULT a text is as if it was empty (text 0)");
        for (String faulty : new String[] {"x", "1234;", "1234;567", "1234;0000", "1234;5678x", "12345"}) {
            likeEmpty(busyWith(faulty, "fw8;nn3"), busyWith("", "fw8;nn3"));
        }
        DreamShares x = busyWith("1234;0010;", "fw8");
        Due.same("nobody", x.count(0), 0);
        Due.same("recipes are there", x.count(1), 1);
        x.undo(0);
        Due.same("both are there again", x.count(0), 2);
        Due.same("their suppers, too", x.count(4), 2);
        Due.same("their pay, too", x.count(5), 1 + 11);
    }

    private static void faultyRecipesAreNone() {
        Due.sentence("With a FAULT a text is as if it was empty (text 1)");
        for (String faulty : new String[] {"x", "f", "fw8;", "fw8;n", "fw8;n0", "fw8x", "f1;f1;f1;f1;f1;f1;f1"}) {
            likeEmpty(busyWith("1234;0010;5555", faulty), busyWith("1234;0010;5555", ""));
        }
        DreamShares x = busyWith("1234", "fw8;f");
        Due.same("nothing is made", x.worth(1, 1, 0, 0), 0);
        Due.same("somebody is there", x.count(0), 1);
        x.undo(1);
        x.undo(1);
        Due.same("it is made again", x.worth(1, 1, 0, 0), 8);
    }

    private static void supperIsNoneAtFirst() {
        Due.sentence("SUPPER of a MEMBER (0 to 5): a KIND, or NONE (at first)");
        DreamShares x = typed(0, Edge.FULL_MEMBERS);
        Due.same("suppers", x.count(4), 0);
        for (int m = 0; m < 6; m++) {
            Due.same("at first", x.supper(m, DreamShares.NONE), -1);
        }
        Due.same("still none", x.count(4), 0);
        Due.fraction("chance(3, 3)", x.chance(3, 3, 0), x.chance(3, 3, 1), 1, 1);
    }

    private static void spiced(DreamShares x, int kind, long above, long below) {
        Due.fraction("chance of kind " + kind, x.chance(0, kind, 0), x.chance(0, kind, 1), above, below);
    }

    private static void spiceIsThreeAtFirst() {
        Due.sentence("to the WEIGHT of that KIND comes SPICE (0 to 9; 3 at first)");
        DreamShares x = typed(0, "9099");
        x.supper(0, 1);
        spiced(x, 1, 1, 10);
        Due.same("as told", x.member(0, 1), 0);
        x.set(0, 0);
        spiced(x, 1, 0, 1);
        x.set(0, 9);
        spiced(x, 1, 1, 4);
        x.supper(0, 3);
        spiced(x, 3, 1, 2);
        spiced(x, 1, 0, 1);
        Due.same("as told", x.member(0, 3), 9);
        x.supper(0, DreamShares.NONE);
        spiced(x, 3, 1, 3);
    }

    private static void dreamsAreForOneThing() {
        Due.sentence("RECIPES one by one, each as often as one likes, each dream for one thing at most");
        DreamShares x = typed(1, "f9;ff9");
        Due.same("one dream", x.worth(1, 0, 0, 0), 9);
        Due.same("two dreams", x.worth(2, 0, 0, 0), 18);
        Due.same("six times", x.worth(6, 0, 0, 0), 54);
        DreamShares y = typed(1, "nn5;wn4");
        y.set(1, 0);
        Due.same("half of a pair", y.worth(0, 0, 0, 1), 0);
        Due.same("a pair", y.worth(0, 0, 0, 2), 5);
        Due.same("a pair and one", y.worth(0, 0, 0, 3), 5);
        Due.same("three pairs", y.worth(0, 0, 0, 6), 15);
        Due.same("one nightmare is for one water", y.worth(0, 3, 0, 1), 4);
        Due.same("a pair and one by water", y.worth(0, 3, 0, 3), 12);
    }

    private static void pricesAreTheMost() {
        Due.sentence("so that PRICES together are the most");
        DreamShares x = typed(1, "fw9;fg6;wn6");
        x.set(1, 0);
        Due.same("the dearest first is not the most", x.worth(1, 1, 1, 1), 12);
        Due.same("left over where that is more", x.worth(1, 1, 1, 0), 9);
        Due.same("nothing fits", x.worth(6, 0, 0, 0), 0);
    }

    private static void lossIsTwoAtFirst() {
        Due.sentence("less LOSS (0 to 9; 2 at first) for each nightmare (also such as were MADE to something)");
        DreamShares x = typed(1, "nn9");
        Due.same("no nightmare", x.worth(2, 2, 2, 0), 0);
        Due.same("2 at first", x.worth(0, 0, 0, 1), -2);
        Due.same("made, too", x.worth(0, 0, 0, 2), 5);
        Due.same("made and not", x.worth(0, 0, 0, 3), 3);
        x.set(1, 9);
        Due.same("six by 9", x.worth(0, 0, 0, 6), 27 - 54);
        x.set(1, 0);
        Due.same("six by 0", x.worth(0, 0, 0, 6), 27);
    }

    private static void fractionsInLowestTerms() {
        Due.sentence("FRACTIONS are told in lowest terms, above (perhaps below 0) and below (above 0; 0 by 1)");
        DreamShares x = Due.with("6003;0003;9000", "");
        Due.fraction("6 of 9", x.chance(0, 0, 0), x.chance(0, 0, 1), 2, 3);
        Due.fraction("0 of 9", x.chance(0, 1, 0), x.chance(0, 1, 1), 0, 1);
        Due.fraction("3 of 3", x.chance(1, 3, 0), x.chance(1, 3, 1), 1, 1);
        Due.fraction("below 0", x.mean(1, 0), x.mean(1, 1), -2, 3);
        Due.fraction("below 0, whole", x.mean(2, 0), x.mean(2, 1), -2, 1);
        Due.fraction("0", x.mean(4, 0), x.mean(4, 1), 0, 1);
        Due.fraction("share below 0", x.share(0, 0), x.share(0, 1), -2, 3);
        Due.fraction("share 0", x.share(2, 0), x.share(2, 1), 0, 1);
        Due.fraction("strike below 0", x.strike(5, 0), x.strike(5, 1), -2, 3);
        Due.fraction("strike 0", x.strike(0, 0), x.strike(0, 1), 0, 1);
        // 3 of 12 and 3 of 6 are nightmares
        Due.fraction("menu below 0", x.menuMean(2, 0), x.menuMean(2, 1), -3, 2);
        Due.fraction("dread 0", x.dread(3, 0), x.dread(3, 1), 0, 1);
        Due.fraction("dread 1", x.dread(1, 0), x.dread(1, 1), 1, 1);
    }

    /** The lots reckoned with numbers that do not wrap, cut to 32 bits after each step. */
    private static void lotsWrap() {
        Due.sentence("as ints that wrap; its upper 16 bits as a number from 0 on, modulo m");
        int[] worths = {1, 3, 9, -2};
        DreamShares x = Due.with("1246", "f1;w3;g9");
        for (int seed : new int[] {0, 1, -1, 7, 65536, 1 << 30, Edge.MOST, Edge.MOST - 1, Edge.LEAST, Edge.LEAST + 1}) {
            long state = seed & 0xFFFFFFFFL;
            int together = 0;
            for (int night = 1; night <= 20; night++) {
                state = (1103515245L * state + 12345) % (1L << 32);
                long lot = state / 65536 % 13;
                int kind = lot < 1 ? 0 : lot < 3 ? 1 : lot < 7 ? 2 : 3;
                together += worths[kind];
                Due.same("week(" + seed + ", " + night + ")", x.week(seed, night, 0), together);
            }
        }
    }

    private static void sheetsAreLostAtFirst() {
        Due.sentence("SHEETS 0 .. 3 are LOST (at first)");
        for (int s = 0; s < 4; s++) {
            DreamShares x = new DreamShares();
            Due.same("lose(" + s + ")", x.lose(s), -11);
            Due.same("sheet(" + s + ")", x.sheet(s, 0, 1), 1);
            Due.same("lose(" + s + ")", x.lose(s), 1);
        }
        for (int s : Edge.outside(0, 3)) {
            Edge.bad("lose(" + s + ")", x -> x.lose(s), -2);
        }
    }

    private static void sheetsHaveThreeForms() {
        Due.sentence("a row of a FORM: 0 bytes, 1 shorts, 2 ints");
        int[] becomes = {-1, -21505, 0x1234ABFF};
        for (int form = 0; form < 3; form++) {
            DreamShares x = new DreamShares();
            x.sheet(0, form, 1);
            x.put(0, form, 0, 0x1234ABFF);
            Due.same("form " + form, x.get(0, form, 0), becomes[form]);
        }
        for (int form : Edge.outside(0, 2)) {
            Edge.bad("sheet of form " + form, x -> x.sheet(0, form, 1), -2);
        }
    }

    private static void sheetsHoldUpTo48() {
        Due.sentence("of 0 to 48 items (0 at first)");
        for (int form = 0; form < 3; form++) {
            DreamShares x = new DreamShares();
            Due.same("48 items", x.sheet(0, form, 48), 48);
            for (int i = 0; i < 48; i++) {
                Due.same("item " + i, x.get(0, form, i), 0);
                x.put(0, form, i, 7);
            }
            Due.same("no items", x.sheet(0, form, 0), 0);
            Due.same("item 0 of none", x.put(0, form, 0, 1), -12);
            x.sheet(0, form, 48);
            for (int i = 0; i < 48; i++) {
                Due.same("item " + i + " anew", x.get(0, form, i), 0);
            }
        }
    }

    private static void findingsTellTheirNumber() {
        Due.sentence("FINDINGS (answers -10 less the number; they change nothing but count() 8)");
        Due.same("before any", new DreamShares().count(8), 0);
        Edge.found("1 NULL", x -> x.lose(3), -11, Edge.NULL);
        Edge.found("2 INDEX", x -> x.put(0, 1, 5, 9), -12, Edge.INDEX);
        Edge.found("3 CAST", x -> x.put(0, 2, 0, 9), -13, Edge.CAST);
        Edge.found("4 STORE", x -> x.copy(0, 0, 1, 0, 1), -14, Edge.STORE);
        Edge.found("5 SIZE", x -> x.sheet(0, 1, -1), -15, Edge.SIZE);
    }

    private static void refusalsInTheirOrder() {
        Due.sentence("Refusals, the first that fits, in the order told at each act");
        Edge.refused(Edge::full, "type: BAD ahead of FULL", x -> x.type(0, 256), -2, Edge.SIZE);
        Edge.refused(Edge::full, "type: BAD ahead of FULL", x -> x.type(2, 49), -2, Edge.SIZE);
        Edge.refused(DreamShares::new, "undo: BAD ahead of NOT", x -> x.undo(2), -2, 0);
        Edge.bad("sheet: BAD ahead of SIZE", x -> x.sheet(4, 0, -1), -2);
        Edge.bad("sheet: BAD ahead of SIZE", x -> x.sheet(0, 3, -1), -2);
        Edge.bad("put: BAD ahead of NULL", x -> x.put(3, 3, 0, 0), -2);
        Edge.bad("put: BAD ahead of INDEX", x -> x.put(0, 3, 5, 0), -2);
        Edge.found("put: NULL ahead of CAST, INDEX", x -> x.put(3, 2, -1, 0), -11, Edge.NULL);
        Edge.found("put: CAST ahead of INDEX", x -> x.put(0, 2, -1, 0), -13, Edge.CAST);
        Edge.bad("get: BAD ahead of NULL", x -> x.get(3, 3, 0), Edge.LEAST);
        Edge.found("get: NULL ahead of CAST, INDEX", x -> x.get(3, 2, -1), Edge.LEAST, Edge.NULL);
        Edge.found("get: CAST ahead of INDEX", x -> x.get(0, 2, -1), Edge.LEAST, Edge.CAST);
        Edge.bad("copy: BAD ahead of NULL", x -> x.copy(3, 0, 4, 0, 1), -2);
        Edge.bad("copy: BAD ahead of NULL", x -> x.copy(-1, 0, 3, 0, 1), -2);
        Edge.found("copy: NULL ahead of INDEX", x -> x.copy(3, -1, 0, 0, 1), -11, Edge.NULL);
        Edge.found("copy: NULL ahead of STORE", x -> x.copy(1, 0, 3, 0, 1), -11, Edge.NULL);
        Edge.found("copy: STORE ahead of INDEX", x -> x.copy(0, -1, 1, 0, 1), -14, Edge.STORE);
    }

    /** One refused call of each kind after another; only the last FINDING is left of them. */
    private static void refusalsChangeNothing() {
        Due.sentence("They change nothing (FINDINGS but count() 8)");
        DreamShares x = Edge.busy();
        long[] refused = {x.type(0, 256), x.type(2, 49), x.wipe(2), x.undo(-1), x.fault(2), x.member(3, 0), x.recipe(3, 0),
            x.supper(6, 0), x.supper(0, 4), x.set(2, 1), x.set(0, 10), x.pay(6, 1), x.pay(0, 100), x.dreamt(6, 0),
            x.dreamt(0, 4), x.read(4), x.made(7, 0, 0, 0, 0), x.best(3), x.menu(4, 0), x.rows(7, 0, 0, 0),
            x.may(7, 0, 0, 0, 0), x.likeliest(7, 0, 0, 0, 0), x.kept(7, 0, 0, 0), x.sheet(4, 0, 1), x.sheet(0, 3, 1),
            x.sheet(0, 0, 49), x.lose(4), x.put(4, 1, 0, 9), x.put(0, 3, 0, 9), x.copy(4, 0, 0, 0, 1), x.copy(0, 0, 4, 0, 1),
            x.write(5, 4), x.count(9)};
        for (int i = 0; i < refused.length; i++) {
            Due.same("refusal " + i, refused[i], -2);
        }
        Due.same("no FINDING by these", x.count(8), Edge.SIZE);
        long[] found = {x.read(3), x.lose(3), x.put(3, 1, 0, 9), x.put(0, 1, 5, 9), x.put(0, 2, 0, 9), x.copy(0, 0, 1, 0, 1),
            x.copy(0, 0, 2, 0, 5), x.sheet(0, 1, -1), x.write(5, 3)};
        int[] numbers = {1, 1, 1, 2, 3, 4, 2, 5, 1};
        for (int i = 0; i < found.length; i++) {
            Due.same("finding " + i, found[i], -10 - numbers[i]);
        }
        Due.same("the last FINDING", x.count(8), Edge.NULL);
        Edge.unchanged("all these", x, Edge.busy());
    }

    private static void questionsChangeNothing() {
        Due.sentence("Nothing is promised beyond the answers and state changes described above");
        DreamShares x = Edge.busy();
        long sum = x.fault(0) + x.fault(1) + x.member(2, 1) + x.recipe(2, 2) + x.chance(1, 1, 1) + x.worth(2, 2, 1, 1)
            + x.made(2, 2, 1, 1, 2) + x.mean(7, 0) + x.share(2, 0) + x.leave() + x.strike(5, 0) + x.best(2) + x.menu(3, 2)
            + x.menuMean(2, 0) + x.dread(2, 0) + x.rows(1, 1, 1, 0) + x.may(1, 1, 1, 0, 2) + x.likeliest(1, 1, 1, 0, 2)
            + x.kept(1, 0, 1, 0) + x.week(7, 60, 0) + x.week(7, 60, 1) + x.get(0, 1, 4) + x.count(5) + x.digest();
        Due.same("no FINDING, sum " + sum, x.count(8), Edge.SIZE);
        Edge.unchanged("all questions", x, Edge.busy());
    }

    private static void refusedLongs() {
        Due.sentence("Where the answer is a long, a refusal -x is the least long and x more");
        Edge.bad("chance", x -> x.chance(3, 0, 0), -9223372036854775806L);
        Edge.bad("mean", x -> x.mean(64, 0), -9223372036854775806L);
        Edge.bad("share", x -> x.share(3, 0), -9223372036854775806L);
        Edge.bad("strike", x -> x.strike(64, 0), -9223372036854775806L);
        Edge.bad("menuMean", x -> x.menuMean(4, 0), -9223372036854775806L);
        Edge.bad("dread", x -> x.dread(7, 0), -9223372036854775806L);
    }

    private static void refusedNumbers() {
        Due.sentence("where any number is told, it is -10000 less x");
        Edge.bad("worth", x -> x.worth(7, 0, 0, 0), -10002);
        Edge.bad("week", x -> x.week(1, 61, 0), -10002);
    }

    private static void objectOf512Calls() {
        Due.sentence("An object is used for at most 512 calls after it has been made");
        DreamShares x = Due.with(Edge.FULL_MEMBERS, "ff1;ww2;gg3;nn4;fw5;wg6");
        long first = x.digest();
        for (int call = 29 + 23 + 2; call <= 512; call++) {
            Due.same("call " + call, x.digest(), first);
        }
    }
}
