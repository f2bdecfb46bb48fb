/** Part 1 of the document, THE TEXT: each number's two ends, each case of FAULT, 120 letters. Promises 1 to 4, and 24. */
public final class TextEdgesTest {
    private static final int BAD = -1, STATE = -2, FULL = -3, NONE = -9;
    private static final int LEAST = Integer.MIN_VALUE, MOST = Integer.MAX_VALUE;
    private static final String DIGITS = "0123456789";
    private static final Checks C = new Checks();

    public static void main(String[] args) {
        aNewObject();
        everyNumberThatMayBeTold();
        everyNumberOfTheText();
        howManyGoodbyes();
        howManyWomen();
        onceAtMostEach();
        whatIsNotToldIsAsAtFirst();
        everyLetterAtEveryPlace();
        everyTokenThatCantStandThere();
        theFirstFaultIsTold();
        numbersAbove99();
        numbersWithA0Ahead();
        textsThatEndTooEarly();
        blanks();
        lettersThatMayBeTyped();
        oneHundredAndTwentyLetters();
        cleared();
        itemsCounted();
        faultsChangeNothing();
        readAnew();
        counts();
        C.end();
    }

    private static Run run(String title) {
        return new Run(C, title);
    }

    private static String blanks(int n) {
        return " ".repeat(n);
    }

    /** A run with something of everything, so that a change would be seen, and a text typed. */
    private static Run livelyWith(String title, String text) {
        return run(title).tell("g 7 2;g 1 1;w 6;w 2;s 3;c 9;x 31;z 4;")
            .call("morning(1, 1, 0)").call("keep(0)").call("home(2)").call("falls(1, 1)").call("keep(1)").call("morning(1, 1, 0)")
            .call("shows(0, 0, 4, 0, 19)").call("rate(3, 1)").types(text);
    }

    private static void fault(String text, int place) {
        livelyWith("FAULT of '" + text + "'", text).changesNothing("nursery()", -10 - place);
    }

    private static void aNewObject() {
        run("1: a new object").countIs(0, 0, 2, 5, 25, 48, 0, 0).nowIs(0, 0, 0, NONE, 0, 0).due("trace()", 0).due("fits()", 1022);
        run("1: nothing to be undone, no images").due("undo()", STATE).due("back(0)", STATE).due("back(1)", STATE);
        run("1: no GOODBYES").due("goodbye(0, 0)", BAD).due("rate(0, 0)", DoorMornings.NO).due("shows(0, 0, 1, 0, 0)", BAD);
        run("1: no WOMEN").due("woman(0, 0)", BAD).due("falls(0, 1)", BAD).due("ways(0)", BAD).due("plan(0, -1)", BAD);
        run("1: an empty text").due("clear()", 0).due("nursery()", 0);
        run("1: a day at home all the same").due("home(9)", 0).due("now(0)", 9).due("undo()", 0).due("now(0)", 0);
        run("1: an image all the same").due("keep(0)", 0).due("home(1)", 0).due("back(0)", 0).due("now(0)", 0);
    }

    private static void everyNumberThatMayBeTold() {
        everyNumber("TEARS (0 .. 40)", "g ", " 0;", 0, 40, "goodbye(0, 0)");
        everyNumber("GAIN (0 .. 3)", "g 0 ", ";", 0, 3, "goodbye(0, 1)");
        everyNumber("LIKING (0 .. 9)", "w ", ";", 0, 9, "woman(0, 0)");
        everyNumber("STEEP (1 .. 9)", "s ", ";", 1, 9, "count(2)");
        everyNumber("CALM (0 .. 20)", "c ", ";", 0, 20, "count(3)");
        everyNumber("WILD (21 .. 60)", "x ", ";", 21, 60, "count(4)");
        everyNumber("GOAL (1 .. 96)", "z ", ";", 1, 96, "count(5)");
    }

    private static void everyNumber(String title, String ahead, String behind, int least, int most, String shownBy) {
        for (int v = 0; v <= 130; v++) {
            if (v >= least && v <= most) run(title).types(ahead + v + behind).due("nursery()", 1).due(shownBy, v);
            else fault(ahead + v + behind, ahead.length());
        }
        fault(ahead + "-1" + behind, ahead.length());
    }

    private static void everyNumberOfTheText() {
        run("the least of all").types("g 0 0; w 0; s 1; c 0; x 21; z 1;").due("nursery()", 6).countIs(1, 1, 1, 0, 21, 1, 0, 0);
        run("the most of all").types("g 40 3; w 9; s 9; c 20; x 60; z 96;").due("nursery()", 6).countIs(1, 1, 9, 20, 60, 96, 0, 0)
            .due("goodbye(0, 0)", 40).due("goodbye(0, 1)", 3).due("woman(0, 0)", 9);
    }

    private static void howManyGoodbyes() {
        String five = "g 1 1;g 2 2;g 3 3;g 4 0;g 5 1;";
        run("GOODBYES (5 at most)").types(five).due("nursery()", 5).due("count(0)", 5)
            .due("goodbye(0, 0)", 1).due("goodbye(1, 0)", 2).due("goodbye(2, 0)", 3).due("goodbye(3, 0)", 4).due("goodbye(4, 0)", 5)
            .due("goodbye(4, 1)", 1).due("goodbye(5, 0)", BAD);
        fault(five + "g 6 1;", 30);
        fault(five + "g", 30);
        fault(five + "  g 41 9;", 32);
        fault(five + "w 1;s 1; g 6 1;", 39);
        run("four GOODBYES").tell("g 1 1;g 2 2;g 3 3;g 4 0;").due("count(0)", 4).due("goodbye(3, 0)", 4).due("goodbye(4, 0)", BAD);
        run("five GOODBYES of each text").tell(five).types(five).due("nursery()", 5).due("count(0)", 5);
    }

    private static void howManyWomen() {
        String four = "w 1;w 2;w 3;w 4;";
        run("WOMEN (4 at most)").types(four).due("nursery()", 4).due("count(1)", 4).likings(1, 2, 3, 4).due("woman(4, 0)", BAD);
        fault(four + "w 5;", 16);
        fault(four + "w", 16);
        fault(four + "  w 10;", 18);
        fault(four + "g 1 1;z 9; w 5;", 27);
        run("three WOMEN").tell("w 1;w 2;w 3;").due("count(1)", 3).likings(1, 2, 3).due("woman(3, 0)", BAD);
        run("four WOMEN of each text").tell(four).types(four).due("nursery()", 4).due("count(1)", 4);
    }

    private static void onceAtMostEach() {
        String[] items = {"s 3;", "c 3;", "x 33;", "z 3;"};
        for (int i = 0; i < 4; i++) {
            fault(items[i] + items[i], items[i].length());
            fault(items[i] + items[i].charAt(0), items[i].length());
            fault(items[i] + "g 1 1; w 1; " + items[i], items[i].length() + 12);
            String others = "";
            for (int k = 0; k < 4; k++) if (k != i) others += items[k];
            run("each once").types(items[i] + others).due("nursery()", 4).countIs(0, 0, 3, 3, 33, 3, 0, 0);
            fault(items[i] + others + items[i], items[i].length() + others.length());
            run("once in each text").tell(items[i]).types(items[i]).due("nursery()", 1);
            livelyWith("once more behind a FAULT", items[i] + "?").call("nursery()").call("clear()").types(items[i]).due("nursery()", 1);
        }
    }

    private static void whatIsNotToldIsAsAtFirst() {
        run("2, 5, 25, 48 at first").tell("w 0;").countIs(0, 1, 2, 5, 25, 48, 0, 0);
        run("STEEP alone is told").tell("s 9;").countIs(0, 0, 9, 5, 25, 48);
        run("CALM alone is told").tell("c 20;").countIs(0, 0, 2, 20, 25, 48);
        run("WILD alone is told").tell("x 60;").countIs(0, 0, 2, 5, 60, 48);
        run("GOAL alone is told").tell("z 96;").countIs(0, 0, 2, 5, 25, 96);
        run("at first again, if read anew").tell("g 1 1; w 1; s 9; c 20; x 60; z 96;").types("").due("nursery()", 0)
            .countIs(0, 0, 2, 5, 25, 48, 0, 0);
    }

    /**
     * Each of the 256 letters behind a row of letters: by those of 'early' the text ends too early then, by those of
     * 'whole' it has no fault, by any other the fault is at the place that is told (if it is a digit) or at another's.
     */
    private static void everyLetterBehind(String ahead, String early, String whole, int items, int digitsPlace, int othersPlace) {
        for (int letter = 0; letter < 256; letter++) {
            char sign = (char) letter;
            int want = -10 - (DIGITS.indexOf(sign) >= 0 ? digitsPlace : othersPlace);
            if (early.indexOf(sign) >= 0) want = -10 - ahead.length() - 1;
            if (whole.indexOf(sign) >= 0) want = items;
            run("letter " + letter + " behind '" + ahead + "'").types(ahead + sign).due("nursery()", want);
        }
    }

    private static void everyLetterAtEveryPlace() {
        everyLetterBehind("", "gwscxz", " ", 0, 0, 0);
        everyLetterBehind("  ", "gwscxz", " ", 0, 2, 2);
        everyLetterBehind("w 1;", "gwscxz", " ", 1, 4, 4);
        everyLetterBehind("g", " " + DIGITS, "", 0, 1, 1);
        everyLetterBehind("g ", " " + DIGITS, "", 0, 2, 2);
        everyLetterBehind("g 1", " " + DIGITS, "", 0, 2, 3);
        everyLetterBehind("g 4", " 0", "", 0, 2, 3);
        everyLetterBehind("g 0", " ", "", 0, 2, 3);
        everyLetterBehind("g 1 ", " 0123", "", 0, 4, 4);
        everyLetterBehind("g 1 1", " ", ";", 1, 4, 5);
        everyLetterBehind("g 1 1 ", " ", ";", 1, 6, 6);
        everyLetterBehind("w", " " + DIGITS, "", 0, 1, 1);
        everyLetterBehind("w 1", " ", ";", 1, 2, 3);
        everyLetterBehind("w 0", " ", ";", 1, 2, 3);
        everyLetterBehind("w 1 ", " ", ";", 1, 4, 4);
        everyLetterBehind("s", " 123456789", "", 0, 1, 1);
        everyLetterBehind("s 9", " ", ";", 1, 2, 3);
        everyLetterBehind("c", " " + DIGITS, "", 0, 1, 1);
        everyLetterBehind("c 1", " " + DIGITS, ";", 1, 2, 3);
        everyLetterBehind("c 2", " 0", ";", 1, 2, 3);
        everyLetterBehind("x", " ", "", 0, 1, 1);
        everyLetterBehind("x 2", "123456789", "", 0, 2, 2);
        everyLetterBehind("x 6", "0", "", 0, 2, 2);
        everyLetterBehind("x 25", " ", ";", 1, 2, 4);
        everyLetterBehind("z", " 123456789", "", 0, 1, 1);
        everyLetterBehind("z 9", " 0123456", ";", 1, 2, 3);
        everyLetterBehind("z 96", " ", ";", 1, 2, 4);
    }

    /** What may stand behind each beginning of an ITEM is one of: a letter, a NUMBER, a ; . */
    private static void everyTokenThatCantStandThere() {
        String letters = "gwscxz";
        String[] beforeLetter = {"", "g 1 1;", "w 1;", "s 1;", "c 1;", "x 21;", "z 1;"};
        for (String ahead : beforeLetter) {
            fault(ahead + " ;", ahead.length() + 1);
            fault(ahead + " 1", ahead.length() + 1);
            fault(ahead + " 1;", ahead.length() + 1);
        }
        String[] beforeNumber = {"g", "g 1", "w", "s", "c", "x", "z"};
        for (String ahead : beforeNumber) {
            fault(ahead + " ;", ahead.length() + 1);
            for (int i = 0; i < letters.length(); i++) fault(ahead + " " + letters.charAt(i) + ";", ahead.length() + 1);
        }
        String[] beforeEnd = {"g 1 1", "w 1", "s 1", "c 1", "x 21", "z 1"};
        for (String ahead : beforeEnd) {
            fault(ahead + " 1", ahead.length() + 1);
            fault(ahead + " 1;", ahead.length() + 1);
            for (int i = 0; i < letters.length(); i++) fault(ahead + " " + letters.charAt(i), ahead.length() + 1);
        }
    }

    private static void theFirstFaultIsTold() {
        fault("? g 41 1;", 0);
        fault("g 41 1; ?", 2);
        fault("g 41 4;", 2);
        fault("g 41", 2);
        fault("w 1; w 10; w 100", 7);
        fault("s 1; s 10;", 5);
        fault("w 1; ; ?", 5);
        fault("g 1 ? 1;", 4);
        fault("g 1? 1;", 3);
        fault("g 100? 1;", 2);
        fault("G 1 1;", 0);
        fault("w" + (char) 9 + "1;", 1);
        fault("w" + (char) 160 + "1;", 1);
        fault("w" + (char) 0 + "1;", 1);
        fault("w 1;" + (char) 10, 4);
        fault("w +1;", 2);
        fault("w 1.0;", 3);
        fault("w " + (char) 178 + ";", 2);
    }

    private static void numbersAbove99() {
        String[] aheads = {"g ", "g 1 ", "w ", "s ", "c ", "x ", "z "};
        String[] numbers = {"100", "101", "255", "256", "257", "999", "1000", "1024", "65537", "2147483648", "4294967297", "4294967321",
            "18446744073709551617", "18446744073709551641", "100000000000000000000000000000000000001"};
        for (String ahead : aheads) {
            for (String number : numbers) {
                fault(ahead + number, ahead.length());
                fault(ahead + number + ";", ahead.length());
            }
        }
        fault("g 1 1; 100", 7);
        fault("w 1 100;", 4);
        run("a NUMBER of 99 is one, but no GOAL").types("z 99;").due("nursery()", -12);
    }

    private static void numbersWithA0Ahead() {
        String[] aheads = {"g ", "g 1 ", "w ", "s ", "c ", "x ", "z "};
        String[] numbers = {"00", "01", "02", "025", "000", "001", "0000000000000000001"};
        for (String ahead : aheads) {
            for (String number : numbers) {
                fault(ahead + number, ahead.length());
                fault(ahead + number + ";", ahead.length());
            }
        }
        run("a 0 alone").types("g 0 0;").due("nursery()", 1).due("goodbye(0, 0)", 0).due("goodbye(0, 1)", 0);
        run("a 0 and another NUMBER").types("g 0 1;").due("nursery()", 1).due("goodbye(0, 1)", 1);
        run("a 0 behind others").types("g 10 0;").due("nursery()", 1).due("goodbye(0, 0)", 10);
    }

    private static void textsThatEndTooEarly() {
        String[] items = {"g 12 3;", "w 4;", "s 5;", "c 16;", "x 37;", "z 28;"};
        String[] least = {"", "", "", "", "x 3", ""};
        for (int i = 0; i < items.length; i++) {
            for (int end = 1; end < items[i].length(); end++) {
                String text = items[i].substring(0, end);
                if (text.equals(least[i])) continue;
                fault(text, end);
                fault(text + "   ", end + 3);
                fault("w 1; " + text, end + 5);
            }
        }
        fault("x 3", 2);
        run("nothing is not too early").due("nursery()", 0);
        run("nor is a whole ITEM").types("w 1;").due("nursery()", 1);
    }

    private static void blanks() {
        run("none at all").types("g1 1;w1;s1;c1;x21;z1;").due("nursery()", 6);
        run("between all").types("  g  1  1  ;  w  1  ;  s  1  ;  c  1  ;  x  21  ;  z  1  ;  ").due("nursery()", 6).due("count(7)", 0);
        run("blanks alone").types(blanks(5)).due("nursery()", 0).due("count(7)", 0);
        run("they end a NUMBER").types("g 4 0;").due("nursery()", 1).due("goodbye(0, 0)", 4).due("goodbye(0, 1)", 0);
        fault("g 40;", 4);
        fault("g40;", 3);
        fault("w 1 0;", 4);
        fault("z 9 6;", 4);
    }

    private static void lettersThatMayBeTyped() {
        Run all = run("2: letters 0 .. 255");
        for (int letter = 0; letter < 120; letter++) all.due("type(" + letter + ")", letter + 1);
        Run more = run("2: letters 0 .. 255");
        for (int letter = 120; letter < 240; letter++) more.due("type(" + letter + ")", letter - 119);
        Run rest = run("2: letters 0 .. 255");
        for (int letter = 240; letter < 256; letter++) rest.due("type(" + letter + ")", letter - 239);
        for (int letter : new int[] {-1, 256, -256, 32 + 256, 32 - 256, 65536 + 32, LEAST, MOST}) {
            livelyWith("2: BAD", "").changesNothing("type(" + letter + ")", BAD);
            livelyWith("2: BAD", "w 1").changesNothing("type(" + letter + ")", BAD);
        }
    }

    private static void oneHundredAndTwentyLetters() {
        run("the 120th letter is read").types(blanks(116) + "w 3;").due("count(7)", 120).due("nursery()", 1).due("count(7)", 0).likings(3);
        run("the 120th is a fault").types(blanks(119) + "?").due("nursery()", -129).due("count(7)", 120);
        run("it ends too early at 120").types(blanks(117) + "w 3").due("nursery()", -130);
        run("a 120th that ends too early").types(blanks(119) + "g").due("nursery()", -130);
        run("120 blanks").types(blanks(120)).due("nursery()", 0).due("count(7)", 0);
        run("120 digits").types("w" + "1".repeat(119)).due("nursery()", -11);
        Run full = run("120 letters").tell("g 7 2;w 6;s 3;").call("morning(0, 1, 0)").call("keep(0)").types(blanks(116) + "w 3");
        full.due("count(7)", 119).changesNothing("type(256)", BAD).due("type(32)", 120).due("count(7)", 120);
        for (int letter : new int[] {0, 32, ';', 255}) full.changesNothing("type(" + letter + ")", FULL);
        for (int letter : new int[] {-1, 256, LEAST, MOST}) full.changesNothing("type(" + letter + ")", BAD);
        full.due("type(59)", FULL).due("type(59)", FULL).due("count(7)", 120).due("nursery()", -130).due("type(59)", FULL)
            .due("clear()", 120).due("type(59)", 1);
        run("as many again behind nursery()").tell(blanks(120)).types(blanks(119)).due("type(32)", 120).due("type(32)", FULL);
    }

    private static void cleared() {
        run("3: none").due("clear()", 0).due("count(7)", 0);
        run("3: one").types(";").due("clear()", 1).due("count(7)", 0).due("clear()", 0).due("nursery()", 0);
        run("3: 120").types(blanks(120)).due("clear()", 120).due("count(7)", 0).due("type(32)", 1);
        run("3: what was typed is gone").types("g 1 1;").due("clear()", 6).types("w 1;").due("nursery()", 1).countIs(0, 1);
        run("3: behind nursery() none").tell("w 1;").due("clear()", 0);
        livelyWith("3: nothing else is changed", "w 1;").due("clear()", 4).countIs(2, 2, 3, 9, 31, 4, 1, 0).nowIs(4, 1, 0, 0, 2, 4)
            .due("fits()", 1 << 3).due("trace()", 1011).due("back(0)", 1).due("back(1)", 3);
    }

    private static void itemsCounted() {
        run("4: none").due("nursery()", 0);
        run("4: one").types("w 1;").due("nursery()", 1);
        run("4: 13 at most").types("g 1 1;g 1 1;g 1 1;g 1 1;g 1 1;w 1;w 1;w 1;w 1;s 1;c 1;x 21;z 1;").due("nursery()", 13)
            .countIs(5, 4, 1, 1, 21, 1, 0, 0);
        run("4: in any order").types("z 1;w 1;x 21;g 1 1;c 1;w 2;s 1;g 2 2;").due("nursery()", 8)
            .countIs(2, 2, 1, 1, 21, 1).due("goodbye(1, 0)", 2).likings(1, 2);
    }

    private static void faultsChangeNothing() {
        fault("g 1 1; w 1; s 1; c 1; x 21; z 1; ?", 33);
        fault("g 1 1; w 1; s 1; c 1; x 21; z 1", 31);
        run("4: of an object of no text").types("?").changesNothing("nursery()", -10);
        livelyWith("4: again and again", "w 1; ?").due("nursery()", -15).due("nursery()", -15).due("count(7)", 6)
            .changesNothing("nursery()", -15);
        livelyWith("4: and mended then", "w 1").due("nursery()", -13).due("type(59)", 4).due("nursery()", 1).countIs(0, 1, 2, 5, 25, 48, 0, 0);
    }

    private static void readAnew() {
        Run before = livelyWith("read anew", "g 3 1; w 8;").call("falls(0, 1)").due("undo()", 4).due("now(2)", 0)
            .call("morning(1, 4, 0)").due("now(2)", 1).call("falls(0, 1)").due("now(4)", 3).due("count(6)", 1).due("trace()", 1011);
        before.due("nursery()", 2).countIs(1, 1, 2, 5, 25, 48, 0, 0).nowIs(0, 0, 0, 0, 0, 0).likings(8).due("woman(0, 1)", 0)
            .due("fits()", 1022).due("forget()", 0).due("woman(1, 0)", BAD).due("goodbye(1, 0)", BAD);
        before.again("nothing can be UNDONE").due("undo()", STATE);
        before.again("IMAGES are gone").due("back(0)", STATE).due("back(1)", STATE);
        before.again("THE TRACE is not among what is gone").due("trace()", 1011);
        // At TRUST 22 he stays calm by 44 and 5 more: 22 mornings, and the last.
        before.again("the plan is of the new text").due("plan(0, -1)", 23).due("ways(1)", BAD);
        livelyWith("by an empty text too", "").due("nursery()", 0).countIs(0, 0, 2, 5, 25, 48, 0, 0).nowIs(0, 0, 0, NONE, 0, 0)
            .due("back(0)", STATE).due("back(1)", STATE).due("undo()", STATE);
        run("by the same text: LIKING is as told").tell("g 0 3;w 4;").call("morning(0, 1, 0)").likings(5).tell("g 0 3;w 4;").likings(4);
    }

    private static void counts() {
        Run all = livelyWith("24", "g 1").countIs(2, 2, 3, 9, 31, 4, 1, 3);
        for (int what : new int[] {-1, 8, LEAST, MOST}) all.changesNothing("count(" + what + ")", BAD);
        for (int what = 0; what < 8; what++) all.changesNothing("count(" + what + ")", new int[] {2, 2, 3, 9, 31, 4, 1, 3}[what]);
    }
}
