/** Each promise of the document by itself: ordinary inputs, its edges, wrong inputs; answers worked out by hand. */
public final class PromisesTest {
    private static final int BAD = -1, STATE = -2, FULL = -3, NONE = -9, NOT_SO_MANY = -5, NO = -1000000;
    private static final int LEAST = Integer.MIN_VALUE, MOST = Integer.MAX_VALUE;
    private static final Checks C = new Checks();

    public static void main(String[] args) {
        promise1();
        promise2();
        promise3();
        promise4();
        promise4Faults();
        promise4ReadAnew();
        promise5();
        promise6();
        promise6Best();
        promise7();
        promise7With();
        promise8();
        promise8Edges();
        promise8Done();
        promise9();
        promise10();
        promise11();
        promise12();
        promise13();
        promise14();
        promise14Edges();
        promise15();
        promise16();
        promise17();
        promise18();
        promise19();
        promise20();
        promise21();
        promise22And23();
        promise24();
        promise25();
        nothingChangesByAsking();
        wrongInputsChangeNothing();
        C.end();
    }

    private static void promise1() {
        DoorMornings x = new DoorMornings();
        int[] counts = {0, 0, 2, 5, 25, 48, 0, 0};
        for (int i = 0; i < 8; i++) C.due("1: count(" + i + ")", x.count(i), counts[i]);
        int[] nows = {0, 0, 0, NONE, 0, 0};
        for (int i = 0; i < 6; i++) C.due("1: now(" + i + ")", x.now(i), nows[i]);
        C.due("1: trace", x.trace(), 0);
        C.due("1: goodbye", x.goodbye(0, 0), BAD);
        C.due("1: woman", x.woman(0, 0), BAD);
        C.due("1: morning", x.morning(0, 1, 0), BAD);
        C.due("1: plan", x.plan(0, -1), BAD);
        C.due("1: ways", x.ways(0), BAD);
        C.due("1: setback", x.setback(0, 1, 0), NO);
        C.due("1: rate", x.rate(0, 0), NO);
        C.due("1: fits", x.fits(), 1022);
        C.due("1: undo", x.undo(), STATE);
        C.due("1: back", x.back(0), STATE);
        C.due("1: back", x.back(1), STATE);
        C.due("1: home", x.home(9), 0);
        C.due("1: the day", x.now(0), 9);
    }

    private static void promise2() {
        DoorMornings x = new DoorMornings();
        C.due("2: -1", x.type(-1), BAD);
        C.due("2: 256", x.type(256), BAD);
        C.due("2: least", x.type(LEAST), BAD);
        C.due("2: most", x.type(MOST), BAD);
        C.due("2: 0", x.type(0), 1);
        C.due("2: 255", x.type(255), 2);
        for (int i = 3; i <= 120; i++) C.due("2: the " + i + "th", x.type(' '), i);
        C.due("2: the 121st", x.type(' '), FULL);
        C.due("2: BAD comes ahead of FULL", x.type(256), BAD);
        C.due("2: its length", x.count(7), 120);
        C.due("2: 0 is no blank", x.nursery(), -10);
        C.due("2: cleared", x.clear(), 120);
        C.due("2: anew", x.type('g'), 1);
    }

    private static void promise3() {
        DoorMornings x = new DoorMornings();
        C.due("3: empty", x.clear(), 0);
        Checks.type(x, "g1 1;");
        C.due("3: five", x.clear(), 5);
        C.due("3: none left", x.count(7), 0);
        C.due("3: again", x.clear(), 0);
        C.due("3: nothing is told", x.nursery(), 0);
        C.due("3: no goodbyes", x.count(0), 0);
    }

    private static void promise4() {
        DoorMornings x = new DoorMornings();
        C.due("4: empty", x.nursery(), 0);
        C.due("4: blanks alone", Checks.tell(x, "    "), 0);
        C.due("4: the text is empty then", x.count(7), 0);
        C.due("4: all", Checks.tell(x, "z96;g0 0;w0;c20;g 40 3 ; w9;x60;s9;"), 8);
        int[] counts = {2, 2, 9, 20, 60, 96, 0, 0};
        for (int i = 0; i < 8; i++) C.due("4: count(" + i + ")", x.count(i), counts[i]);
        C.due("4: least numbers", Checks.tell(x, "s1;c0;x21;z1;"), 4);
        int[] least = {0, 0, 1, 0, 21, 1};
        for (int i = 0; i < 6; i++) C.due("4: count(" + i + ")", x.count(i), least[i]);
        C.due("4: what is not told is as at first", Checks.tell(x, "w3;"), 1);
        int[] first = {0, 1, 2, 5, 25, 48};
        for (int i = 0; i < 6; i++) C.due("4: count(" + i + ")", x.count(i), first[i]);
        C.due("4: most of all", Checks.tell(x, "g1 0;g2 1;g3 2;g4 3;g5 0;w1;w2;w3;w4;s1;c1;x30;z9;"), 13);
        C.due("4: five goodbyes", x.count(0), 5);
        C.due("4: four women", x.count(1), 4);
    }

    private static void fault(String text, int place) {
        DoorMornings x = Checks.told("g7 2;w6;s3;");
        x.morning(0, 1, 0);
        C.due("4: fault of '" + text + "'", Checks.tell(x, text), -10 - place);
        C.due("4: the text stays", x.count(7), text.length());
        C.due("4: as before", x.goodbye(0, 0), 7);
        C.due("4: as before", x.count(0), 1);
        C.due("4: as before", x.count(1), 1);
        C.due("4: as before", x.count(2), 3);
        C.due("4: the day stays", x.now(0), 1);
        C.due("4: what can be undone stays", x.now(5), 1);
        C.due("4: again", x.nursery(), -10 - place);
    }

    private static void promise4Faults() {
        fault("a", 0);
        fault("  a", 2);
        fault(";", 0);
        fault("5", 0);
        fault("g1 1;;", 5);
        fault("g;", 1);
        fault("gg", 1);
        fault("g 41 1;", 2);
        fault("g 40 4;", 5);
        fault("g 1 1 1;", 6);
        fault("g 1 w", 4);
        fault("g 1;", 3);
        fault("g11;", 3);
        fault("g 100 1;", 2);
        fault("g 01 1;", 2);
        fault("g 00 1;", 2);
        fault("g 4294967296 1;", 2);
        fault("g 18446744073709551616 1;", 2);
        fault("g 1 -1;", 4);
        fault("g 1 1", 5);
        fault("g 1 1  ", 7);
        fault("g 1", 3);
        fault("g 1 ", 4);
        fault("g", 1);
        fault("g  ", 3);
        fault("w 10;", 2);
        fault("w 9 9;", 4);
        fault("w", 1);
        fault("w 1", 3);
        fault("s 0;", 2);
        fault("s 10;", 2);
        fault("c 21;", 2);
        fault("x 20;", 2);
        fault("x 61;", 2);
        fault("z 0;", 2);
        fault("z 97;", 2);
        fault("z 999;", 2);
        fault("s1;s1;", 3);
        fault("c1;c1;", 3);
        fault("x30;x30;", 4);
        fault("z1;z1;", 3);
        fault("s1;c1;x30;z1;s1;", 13);
        fault("z1;w1;s1;z1;", 9);
        fault("g1 1;g1 1;g1 1;g1 1;g1 1;g", 25);
        fault("w1;w1;w1;w1; w1;", 13);
        fault("G1 1;", 0);
        fault("g1\t1;", 2);
        fault("g1" + (char) 160 + "1;", 2);
        fault("g 1 1; w 1; ?", 12);
        fault("g 1 1; w 99; ?", 9);
        fault("" + (char) 178, 0);
    }

    private static void promise4ReadAnew() {
        DoorMornings x = Checks.told("g0 3;w5;z1;");
        x.morning(0, 1, 0);
        x.falls(0, 1);
        x.keep(0);
        x.keep(1);
        x.shows(0, 0, 1, 0, 0);
        x.rate(0, 0);
        C.due("4: it is done", x.now(2), 1);
        C.due("4: there is a plan", x.plan(0, -1), 1);
        C.due("4: read anew", Checks.tell(x, "g9 1;w2;s9;c1;"), 4);
        int[] nows = {0, 0, 0, NONE, 0, 0};
        for (int i = 0; i < 6; i++) C.due("4: now(" + i + ") anew", x.now(i), nows[i]);
        C.due("4: liking anew", x.woman(0, 0), 2);
        C.due("4: nothing shown", x.count(6), 0);
        C.due("4: no image 0", x.back(0), STATE);
        C.due("4: no image 1", x.back(1), STATE);
        C.due("4: nothing to undo", x.undo(), STATE);
        C.due("4: the plan anew", x.plan(0, -1), NONE);
        C.due("4: the trace stays", x.trace(), 1);
    }

    private static void promise5() {
        DoorMornings x = Checks.told("g 40 0; g 0 3; g 12 1;");
        C.due("5", x.goodbye(0, 0), 40);
        C.due("5", x.goodbye(0, 1), 0);
        C.due("5", x.goodbye(1, 0), 0);
        C.due("5", x.goodbye(1, 1), 3);
        C.due("5", x.goodbye(2, 0), 12);
        C.due("5", x.goodbye(2, 1), 1);
        for (int g : new int[] {-1, 3, 5, LEAST, MOST}) C.due("5: no such goodbye", x.goodbye(g, 0), BAD);
        for (int what : new int[] {-1, 2, LEAST, MOST}) C.due("5: no such thing", x.goodbye(0, what), BAD);
    }

    private static void promise6() {
        DoorMornings x = Checks.told("g 3 1; w 0; w 9; w 4;");
        C.due("6", x.woman(0, 0), 0);
        C.due("6", x.woman(1, 0), 9);
        C.due("6", x.woman(2, 0), 4);
        C.due("6", x.woman(2, 1), 0);
        x.falls(2, 1);
        C.due("6: ill", x.woman(2, 1), 1);
        C.due("6: the other is not", x.woman(1, 1), 0);
        C.due("6: best of one who is ill", x.woman(2, 2), 0);
        for (int w : new int[] {-1, 3, 4, 32, LEAST, MOST}) C.due("6: no such woman", x.woman(w, 0), BAD);
        for (int what : new int[] {-1, 3, LEAST, MOST}) C.due("6: no such thing", x.woman(0, what), BAD);
    }

    private static void promise6Best() {
        C.due("6: the farthest", Checks.told("g5 3;g4 0;g3 0;w0;s1;").woman(0, 2), 2);
        C.due("6: as far, more gain", Checks.told("g3 0;g3 2;g3 1;w0;s1;").woman(0, 2), 1);
        C.due("6: as far, the lowest", Checks.told("g9 3;g3 1;g3 1;w0;s1;").woman(0, 2), 1);
        C.due("6: as far by a whole step", Checks.told("g2 1;g3 2;w0;").woman(0, 2), 1);
        C.due("6: none is, by no gain either", Checks.told("g40 0;g40 3;w9;").woman(0, 2), NONE);
        C.due("6: none but one", Checks.told("g40 3;g40 3;g2 0;w0;").woman(0, 2), 2);
        C.due("6: no goodbyes", Checks.told("w9;").woman(0, 2), NONE);
        C.due("6: by her liking", Checks.told("g9 0;g0 3;w9;c20;s1;").woman(0, 2), 1);
    }

    private static void promise7() {
        DoorMornings x = Checks.told("g 0 3; w 2; w 2; w 2; z 9;");
        x.morning(0, 1, 0);
        x.falls(1, 1);
        x.falls(2, 1);
        int[] nows = {1, 3, 0, 0, 6, 3};
        for (int i = 0; i < 6; i++) C.due("7: now(" + i + ")", x.now(i), nows[i]);
        C.due("7: as far as it goes", x.morning(0, 9, 0), 3);
        C.due("7: done", x.now(2), 1);
        for (int what : new int[] {-1, 6, LEAST, MOST}) C.due("7: no such thing", x.now(what), BAD);
    }

    private static void promise7With() {
        DoorMornings x = Checks.told("g 5 1; g 3 1; w 1; w 4; w 2; w 4; s 1;");
        C.due("7: of several the lowest", x.now(3), 1);
        x.falls(1, 1);
        C.due("7: not who is ill", x.now(3), 3);
        x.falls(3, 1);
        C.due("7: the next", x.now(3), 2);
        x.falls(2, 1);
        x.falls(0, 1);
        C.due("7: all are ill", x.now(3), NONE);
        C.due("7: none goes", Checks.told("g 40 1; w 9;").now(3), NONE);
        C.due("7: no goodbyes", Checks.told("w 9;").now(3), NONE);
        C.due("7: a woman who goes nowhere", Checks.told("g 9 1; w 0; w 5; s 1;").now(3), 1);
    }

    private static void promise8() {
        DoorMornings x = Checks.told("g 10 2; g 30 1; w 3; w 8; s 3; c 9; x 22;");
        C.due("8: 10 + 3 - 3", x.morning(0, 1, 0), 10);
        C.due("8: neither calm nor wild: trust", x.now(1), 0);
        C.due("8: liking", x.woman(0, 0), 3);
        C.due("8: the day", x.now(0), 1);
        C.due("8: 10 + 6 - 8", x.morning(0, 2, 1), 8);
        C.due("8: calm: trust is 2 more", x.now(1), 2);
        C.due("8: liking is 1 more", x.woman(1, 0), 9);
        C.due("8: the other's is not", x.woman(0, 0), 3);
        C.due("8: 10 + 3 * (6 - 4) - 9", x.morning(0, 6, 1), 7);
        C.due("8: liking is 9 at most", x.woman(1, 0), 9);
        C.due("8: trust", x.now(1), 4);
        C.due("8: 30 - 3", x.morning(1, 8, 0), 27);
        C.due("8: wild: trust is 2 less", x.now(1), 2);
        C.due("8: liking is 1 less", x.woman(0, 0), 2);
        C.due("8: 30 + 3 * 92 - 2, 60 at most", x.morning(1, 96, 0), 60);
        C.due("8: trust", x.now(1), 0);
        C.due("8: again", x.morning(1, 96, 0), 60);
        C.due("8: again", x.morning(1, 96, 0), 60);
        C.due("8: trust is 0 at least", x.now(1), 0);
        C.due("8: liking is 0 at least", x.woman(0, 0), 0);
        C.due("8: the day", x.now(0), 7);
        x.falls(0, 1);
        C.due("8: she is ill", x.morning(0, 1, 0), STATE);
        C.due("8: BAD comes first", x.morning(0, 97, 0), BAD);
        for (int v : new int[] {-1, 2, LEAST, MOST}) {
            C.due("8: no such goodbye", x.morning(v, 1, 0), BAD);
            C.due("8: no such woman", x.morning(0, 1, v), BAD);
        }
        for (int v : new int[] {-1, 0, 97, LEAST, MOST}) C.due("8: no such length", x.morning(0, v, 1), BAD);
        C.due("8: nothing changed", x.now(0), 7);
        C.due("8: length 96", x.morning(0, 96, 1), 60);
    }

    private static void promise8Edges() {
        DoorMornings y = Checks.told("g 3 3; g 24 0; g 25 0; w 1; c 4; s 2; x 26;");
        C.due("8: just calm", y.morning(0, 1, 0), 4);
        C.due("8: trust 3", y.now(1), 3);
        C.due("8: just not wild", y.morning(1, 7, 0), 24);
        C.due("8: trust 3", y.now(1), 3);
        C.due("8: just wild", y.morning(2, 8, 0), 27);
        C.due("8: trust 1", y.now(1), 1);
        C.due("8: exactly WILD", y.morning(2, 3, 0), 26);
        C.due("8: trust is 0 at least", y.now(1), 0);
        DoorMornings z = Checks.told("g 0 3; w 0;");
        for (int i = 0; i < 8; i++) z.morning(0, 1, 0);
        C.due("8: trust 24", z.now(1), 24);
        z.morning(0, 1, 0);
        C.due("8: trust is 24 at most", z.now(1), 24);
        C.due("8: twice trust, and no more", z.would(0, 48, 0), 0);
        for (int i = 0; i < 110; i++) z.home(9);
        C.due("8: day 999", z.now(0), 999);
        C.due("8: no day is behind it", z.morning(0, 1, 0), STATE);
        C.due("8: still", z.now(0), 999);
        C.due("8: undone", z.undo(), 9);
        C.due("8: back to 990", z.now(0), 990);
        for (int i = 0; i < 9; i++) C.due("8: mornings to 999", z.morning(0, 1, 0), 0);
        C.due("8: day 999 by mornings", z.now(0), 999);
        C.due("8: none more", z.morning(0, 1, 0), STATE);
    }

    private static void promise8Done() {
        DoorMornings x = Checks.told("g 5 1; g 6 1; w 0; s 1; c 15; z 10;");
        x.morning(0, 9, 0);
        C.due("8: not yet GOAL", x.now(2), 0);
        x.morning(1, 30, 0);
        C.due("8: beyond, but not calm", x.now(2), 0);
        x.morning(0, 10, 0);
        C.due("8: just GOAL", x.now(2), 1);
        x.morning(0, 96, 0);
        C.due("8: from then on", x.now(2), 1);
        x.home(9);
        C.due("8: from then on", x.now(2), 1);
    }

    private static void promise9() {
        DoorMornings x = Checks.told("g 0 3; w 9;");
        for (int i = 0; i < 4; i++) x.morning(0, 1, 0);
        C.due("9: 12 - 1", x.home(1), 11);
        C.due("9: the day", x.now(0), 5);
        C.due("9: 11 - 9", x.home(9), 2);
        C.due("9: the day", x.now(0), 14);
        C.due("9: 0 at least", x.home(3), 0);
        C.due("9: the day", x.now(0), 17);
        for (int n : new int[] {-1, 0, 10, LEAST, MOST}) C.due("9: wrong", x.home(n), BAD);
        C.due("9: nothing changed", x.now(0), 17);
        C.due("9: her liking stays", x.woman(0, 0), 9);
        for (int i = 0; i < 108; i++) x.home(9);
        C.due("9: day 989", x.now(0), 989);
        C.due("9: day 997", x.home(8), 0);
        C.due("9: beyond", x.home(3), STATE);
        C.due("9: BAD comes first", x.home(10), BAD);
        C.due("9: still", x.now(0), 997);
        C.due("9: just to 999", x.home(2), 0);
        C.due("9: day 999", x.now(0), 999);
        C.due("9: beyond", x.home(1), STATE);
    }

    private static void promise10() {
        DoorMornings x = Checks.told("g 0 0; w 1; w 1; w 1; w 1;");
        C.due("10", x.falls(0, 0), STATE);
        C.due("10", x.falls(3, 1), 1);
        C.due("10", x.falls(3, 1), STATE);
        C.due("10", x.falls(0, 1), 2);
        C.due("10", x.now(4), 9);
        C.due("10", x.falls(3, 0), 1);
        C.due("10", x.now(4), 1);
        C.due("10", x.falls(3, 0), STATE);
        C.due("10: the day stays", x.now(0), 0);
        for (int w : new int[] {-1, 4, 32, LEAST, MOST}) C.due("10: no such woman", x.falls(w, 1), BAD);
        for (int is : new int[] {-1, 2, LEAST, MOST}) C.due("10: no such thing", x.falls(0, is), BAD);
        C.due("10: two can be undone, and one", x.now(5), 3);
    }

    private static void promise11() {
        DoorMornings x = Checks.told("g 0 2; g 40 0; w 5; w 6; z 1; x 30;");
        C.due("11: none", x.undo(), STATE);
        x.morning(0, 1, 0);
        x.falls(1, 1);
        x.morning(1, 9, 0);
        x.home(2);
        C.due("11", x.undo(), 3);
        C.due("11: the day", x.now(0), 2);
        C.due("11: trust", x.now(1), 0);
        C.due("11", x.undo(), 2);
        C.due("11: trust", x.now(1), 2);
        C.due("11: liking", x.woman(0, 0), 6);
        C.due("11: still ill", x.now(4), 2);
        C.due("11", x.undo(), 1);
        C.due("11: well", x.now(4), 0);
        C.due("11: still done", x.now(2), 1);
        C.due("11", x.undo(), 0);
        C.due("11: not done", x.now(2), 0);
        C.due("11: liking", x.woman(0, 0), 5);
        C.due("11: the day", x.now(0), 0);
        C.due("11: none", x.undo(), STATE);
        for (int i = 0; i < 12; i++) x.home(1);
        C.due("11: ten are known", x.now(5), 10);
        for (int i = 9; i >= 0; i--) {
            C.due("11: " + i + " more", x.undo(), i);
            C.due("11: the day", x.now(0), i + 2);
        }
        C.due("11: older ones are lost", x.undo(), STATE);
        x.morning(0, 97, 0);
        x.home(0);
        x.falls(0, 0);
        x.would(0, 1, 0);
        x.keep(0);
        x.shows(0, 0, 1, 0, 0);
        C.due("11: what was refused, or changes nothing, is not undone", x.undo(), STATE);
        DoorMornings full = Checks.told("g 0 1; g 40 3; w 9; w 9; w 9; w 9; z 1;");
        for (int i = 0; i < 8; i++) full.morning(0, 1, 3);
        for (int i = 0; i < 100; i++) full.home(9);
        for (int i = 0; i < 30; i++) full.morning(0, 1, i % 4);
        for (int w = 0; w < 4; w++) full.falls(w, 1);
        C.due("11: a home of trust 24", full.home(1), 23);
        C.due("11", full.undo(), 9);
        C.due("11: trust 24", full.now(1), 24);
        C.due("11: day 938", full.now(0), 938);
        C.due("11: all ill", full.now(4), 15);
        for (int w = 0; w < 4; w++) C.due("11: liking 9", full.woman(w, 0), 9);
        full.home(1);
        full.home(1);
        full.undo();
        C.due("11: trust 23", full.now(1), 23);
    }

    private static void promise12() {
        DoorMornings x = Checks.told("g 6 2; g 40 1; w 3; w 9; s 4;");
        C.due("12: 6 + 4 - 3", x.would(0, 1, 0), 7);
        C.due("12: 6 + 48 - 3", x.would(0, 12, 0), 51);
        C.due("12: just 60", x.would(1, 6, 0), 60);
        C.due("12: 59", x.would(1, 7, 1), 59);
        C.due("12: 60 at most", x.would(0, 96, 0), 60);
        C.due("12: 6 + 4 - 9", x.would(0, 1, 1), 1);
        x.falls(0, 1);
        C.due("12: though she be ill", x.would(0, 1, 0), 7);
        x.morning(0, 1, 1);
        C.due("12: by trust", x.would(0, 4, 0), 3);
        C.due("12: by trust and more", x.would(0, 5, 0), 7);
        C.due("12: 0 at least", x.would(0, 4, 1), 0);
        C.due("12: nothing is done", x.now(0), 1);
        for (int v : new int[] {-1, 2, LEAST, MOST}) {
            C.due("12: no such goodbye", x.would(v, 1, 0), BAD);
            C.due("12: no such woman", x.would(0, 1, v), BAD);
        }
        for (int v : new int[] {-1, 0, 97, LEAST, MOST}) C.due("12: no such length", x.would(0, v, 0), BAD);
    }

    private static void promise13() {
        DoorMornings x = Checks.told("g 6 3; g 5 1; g 30 1; w 3; w 9; s 4; c 8;");
        C.due("13: 6 + 4 - 3 is 7", x.farthest(0, 0), 1);
        C.due("13: 5 + 4 - 3 is 6", x.farthest(1, 0), 1);
        C.due("13: 5 + 12 - 9 is 8", x.farthest(1, 1), 3);
        C.due("13: none", x.farthest(2, 1), NONE);
        x.morning(0, 1, 0);
        C.due("13: by trust", x.farthest(1, 1), 9);
        x.falls(1, 1);
        C.due("13: though she be ill", x.farthest(1, 1), 9);
        for (int v : new int[] {-1, 2, LEAST, MOST}) C.due("13: no such woman", x.farthest(0, v), BAD);
        for (int v : new int[] {-1, 3, LEAST, MOST}) C.due("13: no such goodbye", x.farthest(v, 0), BAD);
        DoorMornings y = Checks.told("g 0 3; w 9; c 20; s 1;");
        C.due("13: 29", y.farthest(0, 0), 29);
        for (int i = 0; i < 8; i++) y.morning(0, 1, 0);
        C.due("13: 48 + 29", y.farthest(0, 0), 77);
        DoorMornings z = Checks.told("g 5 1; g 6 1; w 0; s 9; g 0 1;");
        C.due("13: calm by no length, though spare is 0", z.farthest(0, 0), NONE);
        C.due("13: nor by spare below steep", z.farthest(2, 0), NONE);
        z = Checks.told("g 0 3; g 9 0; g 8 0; w 2; s 2; c 6;");
        z.morning(0, 1, 0);
        C.due("13: twice trust, spare is 0", z.farthest(1, 0), 6);
        C.due("13: twice trust, spare is 1", z.farthest(2, 0), 6);
    }

    private static void promise14() {
        DoorMornings x = Checks.told("g 9 3; g 4 2; g 4 2; w 0; s 1; c 5; z 6;");
        // From (TRUST 0, LIKING 0) goodbyes 1 and 2 reach 1; from (2, 1) 0 reaches none, 1 and 2 reach 6.
        C.due("14: how many", x.plan(0, -1), 2);
        C.due("14: the first", x.plan(0, 0), 101);
        C.due("14: the last is of GOAL", x.plan(0, 1), 106);
        C.due("14: not so many", x.plan(0, 2), NOT_SO_MANY);
        C.due("14: not so many", x.plan(0, MOST), NOT_SO_MANY);
        C.due("14: below -1", x.plan(0, -2), BAD);
        C.due("14: below -1", x.plan(0, LEAST), BAD);
        for (int v : new int[] {-1, 1, LEAST, MOST}) C.due("14: no such woman", x.plan(v, -1), BAD);
        x.falls(0, 1);
        C.due("14: though she be ill", x.plan(0, -1), 2);
        x.falls(0, 0);
        x.morning(2, 1, 0);
        C.due("14: one less", x.plan(0, -1), 1);
        C.due("14: the lowest goodbye", x.plan(0, 0), 106);
        x.morning(2, 6, 0);
        C.due("14: done", x.now(2), 1);
        C.due("14: as if it were not yet", x.plan(0, -1), 1);
        C.due("14: by 1 still: by 0 he cries 7 at least", x.plan(0, 0), 106);
        DoorMornings none = Checks.told("g 0 0; w 9; z 90; c 20; s 1;");
        C.due("14: none", none.plan(0, -1), NONE);
        C.due("14: none has no first", none.plan(0, 0), NONE);
        C.due("14: none has no 61st", none.plan(0, 60), NONE);
        C.due("14: BAD comes first", none.plan(0, -2), BAD);
        C.due("14: no goodbyes", Checks.told("w 9; z 1;").plan(0, -1), NONE);
    }

    private static void promise14Edges() {
        // 9 mornings till goodbye 1 is calm at all, 24 by it till TRUST is 24, and the last.
        DoorMornings x = Checks.told("g 1 0; g 10 1; w 0; s 1; c 2; z 58;");
        C.due("14: the longest", x.plan(0, -1), 34);
        for (int k = 0; k < 9; k++) C.due("14: " + k, x.plan(0, k), 1);
        for (int k = 9; k < 33; k++) C.due("14: " + k, x.plan(0, k), 101);
        C.due("14: the last", x.plan(0, 33), 58);
        C.due("14: no more", x.plan(0, 34), NOT_SO_MANY);
        DoorMornings y = Checks.told("g 0 1; w 9; s 1; c 0; z 57;");
        C.due("14: 24 and the last", y.plan(0, -1), 25);
        C.due("14: the last but one", y.plan(0, 23), 1);
        C.due("14: the last", y.plan(0, 24), 57);
        C.due("14: one more can't be", Checks.told("g 0 1; w 9; s 1; c 0; z 58;").plan(0, -1), NONE);
        C.due("14: at once", Checks.told("g 0 0; g 40 3; w 9; s 1; c 20; z 29;").plan(0, 0), 29);
        C.due("14: by liking alone", Checks.told("g 0 0; w 5; s 1; c 1; z 10;").plan(0, -1), 5);
        DoorMornings late = Checks.told("g 0 1; w 9; s 1; c 0; z 11;");
        C.due("14: two", late.plan(0, -1), 2);
        for (int i = 0; i < 111; i++) late.home(9);
        C.due("14: the day is no matter", late.plan(0, -1), 2);
        C.due("16: the day is no matter", late.setback(0, 1, 0), -1);
    }

    private static void promise15() {
        DoorMornings x = Checks.told("g 9 3; g 4 2; g 4 2; w 0; s 1; c 5; z 6;");
        C.due("15: 2 ways to (2, 1), 1 each there, by 2", x.ways(0), 4);
        DoorMornings y = Checks.told("g 0 0; g 3 1; w 9; s 1; c 20; z 28;");
        C.due("15: 28 and 29 by 0", y.ways(0), 2);
        C.due("15: no plan", Checks.told("g 0 0; w 9; z 90;").ways(0), 0);
        C.due("15: no goodbyes", Checks.told("w 9;").ways(0), 0);
        DoorMornings anew = Checks.told("g 0 0; w 9; z 5;");
        C.due("15: 5 to 7", anew.ways(0), 3);
        Checks.tell(anew, "g 0 0; w 9; z 90;");
        C.due("15: no plan now", anew.ways(0), 0);
        // At TRUST i there are 9 + 2 * i lengths that are calm: so for 24 mornings, and 1 for the last.
        long ways = 1;
        for (int i = 0; i < 24; i++) ways = ways * (9 + 2 * i) % 1000003;
        C.due("15: modulo 1000003", Checks.told("g 0 1; w 9; s 1; c 0; z 57;").ways(0), ways);
        x.falls(0, 1);
        C.due("15: though she be ill", x.ways(0), 4);
        for (int v : new int[] {-1, 1, LEAST, MOST}) C.due("15: no such woman", x.ways(v), BAD);
    }

    private static void promise16() {
        DoorMornings x = Checks.told("g 4 1; w 0; s 1; c 5; x 21; z 9;");
        // (0, 0) reaches 1, (1, 1) 4, (2, 2) 7, (3, 3) 10.
        C.due("16: the plan", x.plan(0, -1), 4);
        C.due("16: calm", x.setback(0, 1, 0), -1);
        C.due("16: neither", x.setback(0, 2, 0), 0);
        C.due("16: wild, but nothing to lose", x.setback(0, 96, 0), 0);
        for (int i = 0; i < 3; i++) x.morning(0, 1, 0);
        C.due("16: 1 now", x.plan(0, -1), 1);
        C.due("16: too quick: (1, 2) takes 3", x.setback(0, 96, 0), 2);
        C.due("16: it is done by that one, and is done once more", x.setback(0, 9, 0), 0);
        C.due("16: nothing changed", x.now(1), 3);
        x.falls(0, 1);
        C.due("16: though she be ill", x.setback(0, 96, 0), 2);
        C.due("16: no plan", Checks.told("g 0 0; w 0; z 90;").setback(0, 1, 0), NO);
        DoorMornings lost = Checks.told("g 6 0; g 5 3; w 1; z 1; c 6;");
        // With LIKING 1 the first morning by 1 is calm; with LIKING 0 none is.
        C.due("16: ahead there is one", lost.plan(0, -1), 1);
        C.due("16: behind it there is none", lost.setback(0, 96, 0), NO);
        for (int v : new int[] {-1, 1, LEAST, MOST}) {
            C.due("16: no such goodbye", x.setback(v, 1, 0), NO);
            C.due("16: no such woman", x.setback(0, 1, v), NO);
        }
        for (int v : new int[] {-1, 0, 97, LEAST, MOST}) C.due("16: no such length", x.setback(0, v, 0), NO);
    }

    private static void odds(DoorMornings x, int[] args, int upper, int lower) {
        C.due("17: upper", x.odds(args[0], args[1], args[2], args[3], args[4], args[5], 0), upper);
        C.due("17: lower", x.odds(args[0], args[1], args[2], args[3], args[4], args[5], 1), lower);
    }

    private static void promise17() {
        DoorMornings x = Checks.told("g 8 1; g 40 0; w 4; s 1; c 5;");
        // By length 1: he cries 5, then 3, 2, 1, 0 minutes.
        odds(x, new int[] {0, 1, 0, 1, 3, 1}, 7, 10);
        odds(x, new int[] {0, 1, 0, 2, 3, 1}, 7, 10);
        odds(x, new int[] {0, 1, 0, 2, 3, 3}, 49, 100);
        odds(x, new int[] {0, 1, 0, 5, 3, 4}, 343, 1000);
        odds(x, new int[] {0, 1, 0, 5, 3, 6}, 16807, 100000);
        odds(x, new int[] {0, 1, 0, 5, 5, 20}, 1, 32);
        odds(x, new int[] {0, 1, 0, 5, 0, 20}, 1, 1);
        odds(x, new int[] {0, 1, 0, 5, 10, 1}, 0, 1);
        odds(x, new int[] {0, 1, 0, 0, 10, 20}, 1, 1);
        odds(x, new int[] {1, 1, 0, 1, 0, 1}, 0, 1);
        odds(x, new int[] {1, 1, 0, 0, 0, 1}, 1, 1);
        odds(x, new int[] {0, 1, 0, 3, 4, 3}, 9, 25);
        x.falls(0, 1);
        odds(x, new int[] {0, 1, 0, 1, 3, 1}, 7, 10);
        C.due("17: nothing changed", x.woman(0, 0), 4);
        for (int v : new int[] {-1, 2, LEAST, MOST}) C.due("17: g", x.odds(v, 1, 0, 1, 1, 1, 0), BAD);
        for (int v : new int[] {0, 97, LEAST, MOST}) C.due("17: length", x.odds(0, v, 0, 1, 1, 1, 0), BAD);
        for (int v : new int[] {-1, 1, LEAST, MOST}) C.due("17: w", x.odds(0, 1, v, 1, 1, 1, 0), BAD);
        for (int v : new int[] {-1, 6, LEAST, MOST}) C.due("17: n", x.odds(0, 1, 0, v, 1, 1, 0), BAD);
        for (int v : new int[] {-1, 11, LEAST, MOST}) C.due("17: x", x.odds(0, 1, 0, 1, v, 1, 0), BAD);
        for (int v : new int[] {0, 21, LEAST, MOST}) C.due("17: d", x.odds(0, 1, 0, 1, 1, v, 0), BAD);
        for (int v : new int[] {-1, 2, LEAST, MOST}) C.due("17: what", x.odds(0, 1, 0, 1, 1, 1, v), BAD);
    }

    private static void promise18() {
        DoorMornings x = Checks.told("g 8 1; w 4;");
        C.due("18: least", x.shows(0, 0, 1, 0, 0), 1);
        C.due("18: most", x.shows(0, 24, 96, 9, 60), 2);
        for (int v : new int[] {-1, 1, LEAST, MOST}) C.due("18: g", x.shows(v, 0, 1, 0, 0), BAD);
        for (int v : new int[] {-1, 25, LEAST, MOST}) C.due("18: trust", x.shows(0, v, 1, 0, 0), BAD);
        for (int v : new int[] {0, 97, LEAST, MOST}) C.due("18: length", x.shows(0, 0, v, 0, 0), BAD);
        for (int v : new int[] {-1, 10, LEAST, MOST}) C.due("18: liking", x.shows(0, 0, 1, v, 0), BAD);
        for (int v : new int[] {-1, 61, LEAST, MOST}) C.due("18: t", x.shows(0, 0, 1, 0, v), BAD);
        C.due("18: two yet", x.count(6), 2);
        for (int i = 3; i <= 6; i++) C.due("18", x.shows(0, 1, 1, 1, 1), i);
        C.due("18: no seventh", x.shows(0, 1, 1, 1, 1), FULL);
        C.due("18: BAD comes first", x.shows(0, 1, 0, 1, 1), BAD);
        C.due("18: six", x.count(6), 6);
    }

    private static void promise19() {
        DoorMornings x = Checks.told("g 8 1;");
        C.due("19: nothing", x.forget(), 0);
        x.shows(0, 0, 1, 0, 0);
        x.shows(0, 0, 1, 0, 0);
        C.due("19: two", x.forget(), 2);
        C.due("19: none left", x.count(6), 0);
        C.due("19: all fit", x.fits(), 1022);
        C.due("19: again", x.forget(), 0);
        C.due("19: the first", x.shows(0, 0, 1, 0, 0), 1);
    }

    private static void promise20() {
        DoorMornings x = Checks.told("g 8 1; g 0 0; s 5;");
        C.due("20: all", x.fits(), 1022);
        x.shows(0, 2, 6, 1, 60);
        C.due("20: none makes 60", x.fits(), 0);
        x.forget();
        x.shows(0, 2, 6, 1, 25);
        C.due("20: 8 + 9 * 2 - 1", x.fits(), 1 << 9);
        x.forget();
        x.shows(0, 2, 6, 1, 9);
        C.due("20: 8 + 2 - 1", x.fits(), 2);
        x.forget();
        x.shows(0, 0, 13, 1, 60);
        C.due("20: 60 at most: from 5 on", x.fits(), 1022 - 30);
        x.shows(1, 0, 10, 2, 58);
        C.due("20: and that too", x.fits(), 1 << 6);
        x.shows(1, 5, 10, 9, 0);
        C.due("20: not beyond trust, 0 at least", x.fits(), 1 << 6);
        x.shows(0, 5, 10, 3, 5);
        C.due("20: by no steep", x.fits(), 1 << 6);
        x.shows(0, 5, 10, 3, 6);
        C.due("20: by none", x.fits(), 0);
        x.forget();
        x.shows(1, 0, 1, 3, 0);
        C.due("20: 1 to 3", x.fits(), 14);
    }

    private static void promise21() {
        DoorMornings x = Checks.told("g 9 2; g 0 3; w 9;");
        x.morning(1, 1, 0);
        x.morning(1, 1, 0);
        C.due("21: GOODBYE", x.rate(0, 0), 9);
        C.due("21: SLOW", x.rate(1, 0), 11);
        C.due("21: QUICK", x.rate(2, 0), 3);
        C.due("21: WAVE", x.rate(3, 0), 22);
        C.due("21: UNSEEN", x.rate(4, 0), 3);
        C.due("21: KISS", x.rate(5, 0), 11);
        C.due("21: QUICK below 0", x.rate(2, 1), -6);
        C.due("21: UNSEEN and its number", x.rate(4, 1), -5);
        C.due("21: WAVE", x.rate(3, 1), 6);
        for (int v : new int[] {-1, 6, LEAST, MOST}) C.due("21: no such kind", x.rate(v, 0), NO);
        for (int v : new int[] {-1, 2, LEAST, MOST}) C.due("21: no such goodbye", x.rate(0, v), NO);
    }

    private static void promise22And23() {
        DoorMornings x = Checks.told("g 0 2; g 40 0; w 5; w 6; z 1;");
        C.due("22: at first", x.keep(1), 0);
        x.morning(0, 1, 0);
        x.falls(1, 1);
        C.due("22: day 1", x.keep(0), 1);
        C.due("22: no such image", x.keep(2), BAD);
        C.due("22: no such image", x.keep(-1), BAD);
        C.due("22: no such image", x.keep(MOST), BAD);
        C.due("22: no such image", x.keep(LEAST), BAD);
        C.due("22: what can be undone stays", x.now(5), 2);
        x.home(9);
        x.falls(1, 0);
        x.morning(1, 96, 0);
        x.shows(0, 0, 1, 0, 0);
        x.type('g');
        C.due("23: day 1", x.back(0), 1);
        int[] nows = {1, 2, 1, 0, 2, 0};
        for (int i = 0; i < 6; i++) C.due("23: now(" + i + ")", x.now(i), nows[i]);
        C.due("23: liking", x.woman(0, 0), 6);
        C.due("23: nothing can be undone", x.undo(), STATE);
        C.due("23: what he showed stays", x.count(6), 1);
        C.due("23: the text stays", x.count(7), 1);
        C.due("23: day 0", x.back(1), 0);
        C.due("23: not done", x.now(2), 0);
        C.due("23: well", x.now(4), 0);
        C.due("23: liking", x.woman(0, 0), 5);
        C.due("23: forth again", x.back(0), 1);
        C.due("22: kept anew", x.keep(1), 1);
        C.due("23: the newer", x.back(1), 1);
        C.due("23: no such image", x.back(2), BAD);
        C.due("23: no such image", x.back(-1), BAD);
        C.due("23: no such image", x.back(MOST), BAD);
        C.due("23: no such image", x.back(LEAST), BAD);
        DoorMornings y = new DoorMornings();
        y.keep(0);
        y.home(3);
        C.due("23: none was kept", y.back(1), STATE);
        C.due("23: what can be undone stays if refused", y.now(5), 1);
        C.due("23: an image of day 0", y.back(0), 0);
    }

    private static void promise24() {
        DoorMornings x = Checks.told("g 1 1; g 2 2; g 3 3; w 4; w 5; s 6; c 7; x 28; z 29;");
        x.shows(0, 0, 1, 0, 0);
        Checks.type(x, "g 1 ");
        int[] counts = {3, 2, 6, 7, 28, 29, 1, 4};
        for (int i = 0; i < 8; i++) C.due("24: count(" + i + ")", x.count(i), counts[i]);
        for (int v : new int[] {-1, 8, LEAST, MOST}) C.due("24: no such thing", x.count(v), BAD);
    }

    private static void promise25() {
        DoorMornings x = Checks.told("g 9 2; w 9;");
        long[] added = {1, 11, 101, 1011, 10101, 100001};
        long all = 0;
        C.due("25: at first", x.trace(), 0);
        for (int round = 0; round < 3; round++) {
            for (int kind = 0; kind < 6; kind++) {
                x.rate(kind, 0);
                all += added[kind];
                C.due("25: behind kind " + kind, x.trace(), all);
            }
        }
        x.rate(6, 0);
        x.rate(-1, 0);
        x.rate(3, 1);
        x.rate(3, -1);
        C.due("25: nothing by what is BAD", x.trace(), all);
        x.morning(0, 1, 0);
        x.undo();
        x.keep(0);
        x.back(0);
        C.due("25: undone by nothing", x.trace(), all);
        for (int i = 0; i < 400; i++) x.rate(5, 0);
        C.due("25: 400 more", x.trace(), all + 400L * 100001);
    }

    private static String nowOf(DoorMornings x) {
        StringBuilder s = new StringBuilder();
        for (int i = 0; i < 6; i++) s.append(x.now(i)).append(' ');
        for (int w = 0; w < 4; w++) s.append(x.woman(w, 0)).append(' ').append(x.woman(w, 1)).append(' ');
        for (int i = 0; i < 8; i++) s.append(x.count(i)).append(' ');
        return s.append(x.fits()).append(' ').append(x.trace()).toString();
    }

    private static DoorMornings ordinary() {
        DoorMornings x = Checks.told("g 6 2; g 2 1; w 3; w 6; s 1; c 5; z 30;");
        x.morning(0, 2, 0);
        x.falls(1, 1);
        x.shows(0, 0, 5, 0, 11);
        Checks.type(x, "w");
        return x;
    }

    private static void nothingChangesByAsking() {
        DoorMornings x = ordinary();
        String before = nowOf(x);
        for (int w = 0; w < 2; w++) {
            x.woman(w, 2);
            x.would(0, 96, w);
            x.farthest(0, w);
            x.plan(w, -1);
            x.plan(w, 1);
            x.ways(w);
            x.setback(0, 96, w);
            x.odds(0, 1, w, 5, 5, 5, 0);
        }
        C.holds("nothing is changed by mornings to come", before.equals(nowOf(x)));
    }

    private static void wrongInputsChangeNothing() {
        DoorMornings x = ordinary();
        String before = nowOf(x);
        x.type(256);
        x.morning(0, 1, 1);
        x.morning(2, 1, 0);
        x.morning(0, 97, 0);
        x.home(10);
        x.falls(1, 1);
        x.falls(2, 1);
        x.falls(0, 3);
        x.back(0);
        x.keep(3);
        x.rate(7, 0);
        x.shows(0, 0, 1, 0, 61);
        x.nursery();
        C.holds("nothing is changed by what is refused", before.equals(nowOf(x)));
    }
}
