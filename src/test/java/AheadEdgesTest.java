/** Part 3 of the document, mornings to come and what he showed, and its edges. Promises 6, 7 and 12 to 20. */
public final class AheadEdgesTest {
    private static final int BAD = -1, FULL = -3, NONE = -9, NOT_SO_MANY = -5, NO = -1000000;
    private static final int LEAST = Integer.MIN_VALUE, MOST = Integer.MAX_VALUE;
    private static final Checks C = new Checks();

    public static void main(String[] args) {
        nothingIsChanged();
        wrongNumbersOfAMorning();
        would();
        farthestWhereNoneIs();
        farthestAtItsMost();
        bestWhereNoneIs();
        bestWhereSeveralAre();
        withWhereNoneIs();
        withWhereSeveralAre();
        planWhereThereIsNone();
        planOfFewest();
        planTheFirstOfSeveral();
        planTheKth();
        planAtItsLongest();
        planHeedsNothingElse();
        waysOfAsManyMornings();
        waysModulo();
        waysWhereThereIsNoPlan();
        setbackBelow0AndAbove();
        setbackWhereThereIsNone();
        oddsOfNoMornings();
        oddsByX();
        oddsByD();
        oddsByN();
        oddsAsTrustAndLikingBecome();
        oddsOfWrongNumbers();
        shownNumbers();
        sixAreShown();
        forgotten();
        fitsByEachSteep();
        fitsAtTheEndsOfTime();
        C.end();
    }

    private static Run run(String title) {
        return new Run(C, title);
    }

    /** Something of everything: two goodbyes, two women, one of them ill, what can be undone, an image, a text. */
    private static Run lively(String title) {
        return run(title).tell("g 6 2;g 2 1;w 3;w 6;s 1;c 5;x 21;z 12;").call("morning(0, 2, 0)").call("keep(0)").call("falls(1, 1)")
            .call("shows(0, 0, 5, 0, 11)").call("rate(4, 1)").types("w");
    }

    private static void nothingIsChanged() {
        Run all = lively("nothing is changed");
        // TRUST 2, LIKINGS 4 and 6.
        all.changesNothing("would(0, 6, 0)", 4).changesNothing("would(0, 6, 1)", 2).changesNothing("would(1, 96, 0)", 60);
        all.changesNothing("farthest(0, 0)", 7).changesNothing("farthest(1, 1)", 13);
        all.changesNothing("woman(0, 2)", 1).changesNothing("woman(1, 2)", 1).changesNothing("now(3)", 0);
        all.changesNothing("plan(0, -1)", 2).changesNothing("plan(0, 0)", 1).changesNothing("plan(0, 1)", 12).changesNothing("plan(0, 2)", NOT_SO_MANY);
        all.changesNothing("plan(1, -1)", 1).changesNothing("plan(1, 0)", 112).changesNothing("ways(1)", 2);
        all.changesNothing("setback(0, 96, 0)", 1).changesNothing("setback(1, 13, 1)", 0);
        all.changesNothing("odds(0, 6, 0, 1, 5, 2, 0)", 1).changesNothing("odds(0, 6, 0, 1, 5, 2, 1)", 2);
        all.changesNothing("fits()", 1 << 1).changesNothing("trace()", 10101);
    }

    private static void wrongNumbersOfAMorning() {
        Run all = lively("12 to 17: wrong numbers");
        for (int v : new int[] {-1, 2, 5, LEAST, MOST}) {
            all.changesNothing(Call.of("would", v, 1, 0), BAD).changesNothing(Call.of("would", 0, 1, v), BAD);
            all.changesNothing(Call.of("farthest", v, 0), BAD).changesNothing(Call.of("farthest", 0, v), BAD);
            all.changesNothing(Call.of("plan", v, -1), BAD).changesNothing(Call.of("plan", v, 0), BAD).changesNothing(Call.of("ways", v), BAD);
            all.changesNothing(Call.of("setback", v, 1, 0), NO).changesNothing(Call.of("setback", 0, 1, v), NO);
        }
        for (int v : new int[] {-1, 0, 97, LEAST, MOST}) {
            all.changesNothing(Call.of("would", 0, v, 0), BAD).changesNothing(Call.of("setback", 0, v, 0), NO);
        }
        for (int v : new int[] {-2, -3, LEAST}) all.changesNothing(Call.of("plan", 0, v), BAD);
        all.due("would(1, 1, 1)", 0).due("would(1, 96, 1)", 60).due("farthest(1, 1)", 13).due("setback(1, 1, 1)", 0).due("setback(1, 96, 1)", 1);
        Run most = run("the last of five, of four").tell("g 1 1;g 1 1;g 1 1;g 1 1;g 9 1;w 1;w 1;w 1;w 2;z 2;");
        most.due("would(4, 1, 3)", 9).due("farthest(4, 3)", NONE).due("farthest(3, 3)", 3).due("plan(3, -1)", 1).due("ways(3)", 8).due("setback(4, 1, 3)", 0);
        most.changesNothing("would(5, 1, 3)", BAD).changesNothing("would(4, 1, 4)", BAD).changesNothing("farthest(5, 3)", BAD)
            .changesNothing("farthest(4, 4)", BAD).changesNothing("plan(4, -1)", BAD).changesNothing("ways(4)", BAD)
            .changesNothing("setback(5, 1, 3)", NO).changesNothing("setback(4, 1, 4)", NO);
    }

    private static void would() {
        Run all = run("12: WOULD (though she be ill)").tell("g 6 2;w 3;s 1;c 5;").due("would(0, 1, 0)", 4).due("falls(0, 1)", 1).due("would(0, 1, 0)", 4);
        all.due("falls(0, 0)", 0).due("morning(0, 1, 0)", 4).due("would(0, 1, 0)", 2).due("would(0, 4, 0)", 2).due("would(0, 5, 0)", 3);
        all.due("undo()", 2).due("would(0, 1, 0)", 4);
    }

    private static void farthestWhereNoneIs() {
        Run all = run("13: NONE").tell("g 4 1;g 5 1;g 6 1;g 40 1;w 0;s 1;c 5;");
        all.due("farthest(0, 0)", 1).due("farthest(1, 0)", NONE).due("farthest(2, 0)", NONE).due("farthest(3, 0)", NONE);
        all.due("morning(0, 1, 0)", 5).due("farthest(0, 0)", 4).due("farthest(1, 0)", 3).due("farthest(2, 0)", 2).due("farthest(3, 0)", NONE);
        run("13: a STEEP of 9").tell("g 0 0;g 1 0;w 4;w 3;s 9;c 5;").due("farthest(0, 0)", 1).due("farthest(1, 0)", NONE)
            .due("farthest(0, 1)", NONE);
        run("13: CALM 0").tell("g 0 0;g 8 0;g 9 0;w 0;w 1;w 9;s 1;c 0;").due("farthest(0, 0)", NONE).due("farthest(0, 1)", 1)
            .due("farthest(0, 2)", 9).due("farthest(1, 2)", 1).due("farthest(2, 2)", NONE);
    }

    private static void farthestAtItsMost() {
        Run all = run("13: at TRUST 24").tell("g 0 3;g 29 0;g 30 0;g 28 0;w 9;s 1;c 20;").due("farthest(0, 0)", 29).times(8, "morning(0, 1, 0)");
        all.due("farthest(0, 0)", 77).due("farthest(1, 0)", 48).due("farthest(2, 0)", NONE).due("farthest(3, 0)", 49);
        all.due("would(0, 77, 0)", 20).due("would(0, 78, 0)", 21).due("would(1, 48, 0)", 20).due("would(1, 49, 0)", 21).due("would(2, 1, 0)", 21);
        all.due("falls(0, 1)", 1).due("farthest(0, 0)", 77);
    }

    private static void bestWhereNoneIs() {
        run("6: BEST of no GOODBYES").tell("w 9;").due("woman(0, 2)", NONE);
        run("6: BEST where none is").tell("g 5 3;g 40 0;w 0;s 1;").due("woman(0, 2)", NONE);
        run("6: any is more than none").tell("g 5 3;g 4 0;g 40 3;w 0;s 1;").due("woman(0, 2)", 1);
        run("6: of each WOMAN by herself").tell("g 5 3;w 0;w 1;s 1;").due("woman(0, 2)", NONE).due("woman(1, 2)", 0);
        run("6: BEST of one who is ill").tell("g 5 3;w 1;s 1;").call("falls(0, 1)").due("woman(0, 2)", 0);
    }

    private static void bestWhereSeveralAre() {
        run("6: the farthest, by whatever GAIN").tell("g 3 3;g 2 0;g 4 3;w 0;s 1;").due("woman(0, 2)", 1);
        run("6: then of most GAIN").tell("g 2 1;g 2 3;g 2 2;w 0;s 1;").due("woman(0, 2)", 1);
        run("6: of most GAIN, the last").tell("g 2 0;g 2 1;g 2 2;g 9 3;g 2 3;w 0;s 1;").due("woman(0, 2)", 4);
        run("6: then the lowest").tell("g 3 3;g 2 2;g 2 1;g 2 2;g 2 2;w 0;s 1;").due("woman(0, 2)", 1);
        run("6: all alike").tell("g 2 0;g 2 0;g 2 0;g 2 0;g 2 0;w 0;s 1;").due("woman(0, 2)", 0);
        run("6: as far by another TEARS").tell("g 1 0;g 0 1;g 2 2;w 0;s 3;").due("woman(0, 2)", 2);
    }

    private static void withWhereNoneIs() {
        run("7: WITH, no WOMEN").tell("g 0 1;").due("now(3)", NONE);
        run("7: WITH, no GOODBYES").tell("w 9;").due("now(3)", NONE);
        run("7: WITH, none stays calm").tell("g 40 1;w 9;w 9;").due("now(3)", NONE);
        run("7: WITH, all are ill").tell("g 0 1;w 1;w 9;").call("falls(0, 1)").due("now(3)", 1).call("falls(1, 1)").due("now(3)", NONE)
            .call("falls(0, 0)").due("now(3)", 0);
        run("7: WITH, who is well goes nowhere").tell("g 9 1;w 9;w 0;").due("now(3)", 0).call("falls(0, 1)").due("now(3)", NONE);
    }

    private static void withWhereSeveralAre() {
        run("7: WITH, of several the lowest").tell("g 0 1;w 1;w 5;w 5;w 5;s 1;").due("now(3)", 1).call("falls(1, 1)").due("now(3)", 2)
            .call("falls(2, 1)").due("now(3)", 3).call("falls(3, 1)").due("now(3)", 0);
        run("7: WITH, as far by a STEEP that divides").tell("g 0 1;w 0;w 1;w 3;w 4;s 5;").due("now(3)", 0);
        run("7: WITH, by some GOODBYE").tell("g 40 1;g 9 1;g 0 1;w 0;w 2;s 1;").due("now(3)", 1);
    }

    private static void planWhereThereIsNone() {
        Run none = run("14: NONE").tell("g 0 0;w 9;s 1;c 20;z 30;");
        for (int k : new int[] {-1, 0, 1, 59, 60, 61, MOST}) none.changesNothing(Call.of("plan", 0, k), NONE);
        for (int k : new int[] {-2, LEAST}) none.changesNothing(Call.of("plan", 0, k), BAD);
        none.changesNothing("plan(1, -1)", BAD).changesNothing("plan(-1, -1)", BAD);
        run("14: one less, and there is").tell("g 0 0;w 9;s 1;c 20;z 29;").due("plan(0, -1)", 1).due("plan(0, 0)", 29);
        run("14: no GOODBYES").tell("w 9;z 1;").due("plan(0, -1)", NONE).due("plan(0, 0)", NONE).due("ways(0)", 0);
        run("14: he never stays calm").tell("g 40 3;w 9;z 1;").due("plan(0, -1)", NONE);
        run("14: the farthest that can be").tell("g 0 3;w 9;s 1;c 20;z 77;").due("plan(0, -1)", 9).due("plan(0, 7)", 1).due("plan(0, 8)", 77);
        run("14: beyond it").tell("g 0 3;w 9;s 1;c 20;z 78;").due("plan(0, -1)", NONE);
        run("14: GOAL 96").tell("g 0 3;w 9;s 1;c 20;z 96;").due("plan(0, -1)", NONE);
    }

    private static void planOfFewest() {
        run("14: at once").tell("g 0 0;w 0;s 1;c 1;z 1;").due("plan(0, -1)", 1).due("plan(0, 0)", 1).due("ways(0)", 1);
        // At LIKING 0, 1, 2 he stays calm by 1, 2, 3.
        run("14: by LIKING alone").tell("g 0 0;w 0;s 1;c 1;z 3;").due("plan(0, -1)", 3).due("plan(0, 0)", 1).due("plan(0, 1)", 1).due("plan(0, 2)", 3);
        run("14: by LIKING 9 at most").tell("g 0 0;w 0;s 1;c 1;z 10;").due("plan(0, -1)", 10).due("plan(0, 9)", 10);
        run("14: no more than that").tell("g 0 0;w 0;s 1;c 1;z 11;").due("plan(0, -1)", NONE);
        run("14: by more GAIN it is fewer").tell("g 0 1;g 0 3;w 9;s 1;c 0;z 20;").due("plan(0, -1)", 3).due("plan(0, 0)", 101).due("plan(0, 1)", 101)
            .due("plan(0, 2)", 20);
    }

    private static void planTheFirstOfSeveral() {
        run("14: the lowest GOODBYE").tell("g 0 2;g 0 2;w 9;s 1;c 0;z 13;").due("plan(0, -1)", 2).due("plan(0, 0)", 1).due("plan(0, 1)", 13);
        run("14: by which he stays calm").tell("g 40 3;g 0 2;g 0 2;w 9;s 1;c 0;z 13;").due("plan(0, 0)", 101).due("plan(0, 1)", 113);
        // By GAIN 1 and then 3 as well as by 3 and then 1 TRUST is 4: the lower number comes first.
        run("14: MORNING by MORNING").tell("g 0 1;g 0 3;w 9;s 1;c 0;z 17;").due("plan(0, -1)", 3).due("plan(0, 0)", 1).due("plan(0, 1)", 101).due("plan(0, 2)", 17);
        run("14: the last by the lowest that goes so far").tell("g 9 3;g 0 3;w 9;s 1;c 0;z 12;").due("plan(0, -1)", 2).due("plan(0, 0)", 101).due("plan(0, 1)", 112);
        run("14: of five the last").tell("g 40 0;g 40 1;g 40 2;g 40 3;g 0 3;w 9;s 1;c 0;z 15;").due("plan(0, -1)", 2).due("plan(0, 0)", 401).due("plan(0, 1)", 415);
    }

    private static void planTheKth() {
        Run all = run("14: the k-th").tell("g 0 1;w 9;s 1;c 0;z 15;").due("plan(0, -1)", 4);
        for (int k = 0; k < 3; k++) all.changesNothing(Call.of("plan", 0, k), 1);
        all.changesNothing("plan(0, 3)", 15);
        for (int k : new int[] {4, 5, 59, 60, 61, MOST}) all.changesNothing(Call.of("plan", 0, k), NOT_SO_MANY);
        for (int k : new int[] {-2, -5, -9, LEAST}) all.changesNothing(Call.of("plan", 0, k), BAD);
    }

    private static void planAtItsLongest() {
        // Nine mornings by goodbye 0 till 1 is calm at all, 24 by it till TRUST is 24, and the last.
        Run all = run("14: 34 mornings").tell("g 1 0;g 10 1;w 0;s 1;c 2;z 58;").due("plan(0, -1)", 34);
        for (int k = 0; k < 34; k++) all.due("plan(0, " + k + ")", k < 9 ? 1 : k < 33 ? 101 : 58);
        all.due("plan(0, 34)", NOT_SO_MANY);
        run("14: one more can't be").tell("g 1 0;g 10 1;w 0;s 1;c 2;z 59;").due("plan(0, -1)", NONE);
    }

    private static void planHeedsNothingElse() {
        Run all = run("14: as things are now").tell("g 0 1;w 9;w 0;s 1;c 1;z 12;").due("plan(0, -1)", 2).due("plan(1, -1)", 5);
        all.again("though she be ill").call("falls(0, 1)").due("plan(0, -1)", 2).due("ways(0)", 10).due("setback(0, 1, 0)", -1);
        all.again("as if it were not DONE yet").call("morning(0, 1, 0)").due("morning(0, 12, 0)", 1).due("now(2)", 1).due("plan(0, -1)", 1)
            .due("plan(0, 0)", 12).due("ways(0)", 3);
        all.again("by TRUST").call("morning(0, 1, 0)").due("plan(0, -1)", 1).due("plan(1, -1)", 4).call("home(1)").due("plan(0, -1)", 2)
            .due("undo()", 1).due("plan(0, -1)", 1);
        all.again("by an IMAGE").call("keep(0)").call("morning(0, 1, 0)").due("plan(0, -1)", 1).call("back(0)").due("plan(0, -1)", 2);
        all.again("at DAY 999").times(111, "home(9)").due("plan(0, -1)", 2).due("ways(0)", 10).due("setback(0, 1, 0)", -1);
        all.again("by another text").tell("g 0 0;w 9;s 1;c 1;z 12;").due("plan(0, -1)", NONE).due("ways(0)", 0).tell("g 0 0;w 9;s 1;c 3;z 12;")
            .due("plan(0, -1)", 1).due("ways(0)", 1);
    }

    private static void waysOfAsManyMornings() {
        run("15: one").tell("g 0 0;w 0;s 1;c 5;z 5;").due("ways(0)", 1);
        run("15: two lengths").tell("g 0 0;w 0;s 1;c 5;z 4;").due("ways(0)", 2);
        run("15: all lengths").tell("g 0 0;w 0;s 1;c 5;z 1;").due("ways(0)", 5);
        run("15: by five alike").tell("g 0 0;g 0 0;g 0 0;g 0 0;g 0 0;w 0;s 1;c 5;z 1;").due("ways(0)", 25);
        // 9 lengths, and then 2 goodbyes by 11 and 10, or 10 and 9, of which 10 and 11 are far enough.
        run("15: of fewest alone").tell("g 0 1;g 1 0;w 9;s 1;c 0;z 10;").due("plan(0, -1)", 2).due("ways(0)", 9 * (2 + 1));
        run("15: what leads nowhere is none").tell("g 0 1;g 9 3;w 9;s 1;c 0;z 10;").due("plan(0, -1)", 2).due("ways(0)", 9 * 2);
    }

    private static void waysModulo() {
        // At TRUST i there are 9 + 2 * i lengths.
        run("15: 9 * 11 * 13 * 15 * 17").tell("g 0 1;w 9;s 1;c 0;z 19;").due("plan(0, -1)", 6).due("ways(0)", 328185);
        run("15: twice that").tell("g 0 1;w 9;s 1;c 0;z 18;").due("ways(0)", 656370);
        run("15: 6235515").tell("g 0 1;w 9;s 1;c 0;z 21;").due("ways(0)", 6235515 % 1000003);
        run("15: twice that").tell("g 0 1;w 9;s 1;c 0;z 20;").due("ways(0)", 12471030 % 1000003);
        run("15: 64 * 656370, by two goodbyes").tell("g 0 1;g 0 1;w 9;s 1;c 0;z 18;").due("ways(0)", 42007680 % 1000003);
        run("15: 997920 is below it").tell("g 0 2;w 6;s 2;c 4;z 23;").due("plan(0, -1)", 6).due("ways(0)", 997920);
        run("15: 1081080 is above").tell("g 3 1;g 4 0;w 7;s 2;c 5;z 17;").due("plan(0, -1)", 7).due("ways(0)", 81077);
        long ways = 1;
        for (int i = 0; i < 24; i++) ways = ways * (29 + 2 * i) * 5 % 1000003;
        run("15: of 25 mornings by five goodbyes").tell("g 0 1;g 0 1;g 0 1;g 0 1;g 0 1;w 9;s 1;c 20;z 77;").due("plan(0, -1)", 9 + 16)
            .due("ways(0)", ways * 5 % 1000003);
    }

    private static void waysWhereThereIsNoPlan() {
        run("15: 0").tell("g 0 0;w 9;s 1;c 20;z 30;").changesNothing("ways(0)", 0).changesNothing("ways(1)", BAD).changesNothing("ways(-1)", BAD);
    }

    private static void setbackBelow0AndAbove() {
        // At TRUST and LIKING 0, 1, 2, 3 alike he stays calm by 1, 4, 7, 10.
        Run all = run("16").tell("g 4 1;g 40 0;w 0;s 1;c 5;x 21;z 10;").due("plan(0, -1)", 4);
        all.due("setback(0, 1, 0)", -1).due("setback(0, 2, 0)", 0).due("setback(0, 16, 0)", 0).due("setback(0, 17, 0)", 0).due("setback(0, 96, 0)", 0);
        all.call("morning(0, 1, 0)").call("morning(0, 1, 0)").call("morning(0, 1, 0)").due("plan(0, -1)", 1);
        all.due("setback(0, 10, 0)", 0).due("setback(0, 1, 0)", 0).due("setback(0, 11, 0)", 0).due("setback(0, 25, 0)", 0);
        // He cries 4 + 20 - 3: just wild, TRUST 1, LIKING 2: 5 lengths, then (2, 3) 8, then (3, 4) 11.
        all.due("setback(0, 26, 0)", 2).due("setback(0, 96, 0)", 2).due("setback(1, 1, 0)", 2).changesNothing("setback(0, 26, 0)", 2);
        all.call("home(9)").due("plan(0, -1)", 3).due("setback(0, 1, 0)", -1).due("setback(0, 96, 0)", 1);
        run("16: at TRUST 24").tell("g 0 1;g 0 3;w 9;s 1;c 0;z 57;").times(8, "morning(1, 1, 0)").due("plan(0, -1)", 1).due("setback(0, 57, 0)", 0)
            .due("setback(0, 96, 0)", 1).due("setback(0, 58, 0)", 0);
    }

    private static void setbackWhereThereIsNone() {
        Run none = run("16: no PLAN ahead").tell("g 0 0;w 9;s 1;c 20;z 30;");
        none.changesNothing("setback(0, 1, 0)", NO).changesNothing("setback(0, 96, 0)", NO);
        Run lost = run("16: no PLAN behind it").tell("g 5 3;w 1;s 1;c 5;x 21;z 1;").due("plan(0, -1)", 1);
        lost.changesNothing("setback(0, 96, 0)", NO).changesNothing("setback(0, 17, 0)", NO).changesNothing("setback(0, 16, 0)", 0);
        lost.changesNothing("setback(0, 1, 0)", 0).changesNothing("setback(0, 97, 0)", NO).changesNothing("setback(0, 0, 0)", NO);
        run("16: no GOODBYES").tell("w 1;").changesNothing("setback(0, 1, 0)", NO);
        run("16: no WOMEN").tell("g 1 1;").changesNothing("setback(0, 1, 0)", NO);
    }

    private static void odds(Run all, String firstSix, int upper, int lower) {
        all.changesNothing("odds(" + firstSix + ", 0)", upper).changesNothing("odds(" + firstSix + ", 1)", lower);
    }

    private static void oddsOfNoMornings() {
        Run all = run("17: of no MORNINGS: 1").tell("g 0 0;g 40 0;w 9;");
        odds(all, "0, 1, 0, 0, 0, 1", 1, 1);
        odds(all, "0, 1, 0, 0, 10, 20", 1, 1);
        odds(all, "1, 96, 0, 0, 10, 20", 1, 1);
    }

    private static void oddsByX() {
        Run all = run("17: x (0 .. 10)").tell("g 5 0;g 6 0;w 1;s 1;c 5;");
        int[][] wants = {{1, 1}, {9, 10}, {4, 5}, {7, 10}, {3, 5}, {1, 2}, {2, 5}, {3, 10}, {1, 5}, {1, 10}, {0, 1}};
        for (int x = 0; x <= 10; x++) {
            odds(all, "0, 1, 0, 1, " + x + ", 1", wants[x][0], wants[x][1]);
            odds(all, "1, 1, 0, 1, " + x + ", 1", 0, 1);
        }
    }

    private static void oddsByD() {
        Run all = run("17: d (1 .. 20)").tell("g 0 0;g 1 0;g 20 0;w 1;s 1;c 20;");
        for (int d = 1; d <= 20; d++) odds(all, "0, 1, 0, 1, 10, " + d, 1, 1);
        for (int d = 1; d <= 20; d++) odds(all, "1, 1, 0, 1, 10, " + d, d < 20 ? 1 : 0, 1);
        for (int d = 1; d <= 20; d += 19) odds(all, "2, 1, 0, 1, 10, " + d, 0, 1);
        odds(all, "2, 1, 0, 1, 5, 1", 1, 2);
        // He cries 0, though LIKING would take 8 more: d is more than that 0.
        Run kind = run("17: d more than what he CRIES").tell("g 0 0;w 9;s 1;c 4;");
        odds(kind, "0, 1, 0, 1, 10, 4", 1, 1);
        odds(kind, "0, 1, 0, 1, 10, 5", 0, 1);
        odds(kind, "0, 9, 0, 1, 10, 4", 1, 1);
        odds(kind, "0, 10, 0, 1, 10, 4", 0, 1);
        odds(run("17: of one who cries 60").tell("g 40 0;w 0;c 20;x 60;"), "0, 96, 0, 1, 10, 20", 0, 1);
    }

    private static void oddsByN() {
        Run all = run("17: n (0 .. 5)").tell("g 5 0;w 9;s 1;c 5;");
        // He cries 0 with her and 6 by 6 more.
        int lower = 1;
        int upper = 1;
        for (int n = 0; n <= 5; n++) {
            odds(all, "0, 1, 0, " + n + ", 9, 6", 1, lower);
            odds(all, "0, 1, 0, " + n + ", 7, 6", upper, lower);
            odds(all, "0, 1, 0, " + n + ", 5, 6", 1, 1 << n);
            odds(all, "0, 1, 0, " + n + ", 0, 6", 1, 1);
            odds(all, "0, 1, 0, " + n + ", 10, 6", n == 0 ? 1 : 0, 1);
            lower *= 10;
            upper *= 3;
        }
        odds(all, "0, 1, 0, 5, 1, 6", 59049, 100000);
        odds(all, "0, 1, 0, 5, 2, 6", 1024, 3125);
    }

    private static void oddsAsTrustAndLikingBecome() {
        // By LENGTH 2 he cries 5, then (TRUST 1, LIKING 1) 2, then 1, then 0.
        Run all = run("17: TRUST, LIKING as they become").tell("g 3 1;w 0;s 1;c 5;");
        odds(all, "0, 2, 0, 1, 5, 4", 1, 2);
        odds(all, "0, 2, 0, 2, 5, 4", 1, 4);
        odds(all, "0, 2, 0, 3, 5, 4", 1, 4);
        odds(all, "0, 2, 0, 2, 5, 3", 1, 2);
        odds(all, "0, 2, 0, 4, 5, 5", 1, 8);
        odds(all, "0, 3, 0, 1, 0, 1", 0, 1);
        odds(all, "0, 3, 0, 5, 5, 1", 0, 1);
        // LIKING 9 at most: he cries 1 and then 1 again.
        Run liked = run("17: LIKING 9 at most").tell("g 9 0;w 8;s 1;c 2;");
        odds(liked, "0, 1, 0, 1, 10, 1", 0, 1);
        odds(liked, "0, 1, 0, 1, 5, 1", 1, 2);
        odds(liked, "0, 1, 0, 2, 5, 1", 1, 2);
        odds(liked, "0, 1, 0, 3, 5, 2", 1, 8);
        // TRUST 24 at most: by LENGTH 50 he cries 2 at TRUST 24, 4 at 23.
        Run far = run("17: TRUST 24 at most").tell("g 9 1;g 0 1;w 9;s 1;c 4;").times(23, "morning(1, 1, 0)").due("now(1)", 23);
        odds(far, "0, 50, 0, 1, 5, 1", 1, 2);
        odds(far, "0, 50, 0, 2, 5, 3", 1, 4);
        odds(far, "0, 50, 0, 3, 5, 3", 1, 8);
        odds(far, "0, 50, 0, 3, 5, 2", 1, 2);
        odds(far.again("17: though she be ill").call("falls(0, 1)"), "0, 50, 0, 3, 5, 2", 1, 2);
    }

    private static void oddsOfWrongNumbers() {
        Run all = lively("17: BAD");
        int[] good = {0, 1, 0, 1, 5, 5, 0};
        int[][] wrong = {{-1, 2, 5}, {0, 97, -1}, {-1, 2, 4}, {-1, 6, 7}, {-1, 11, 12}, {0, 21, -1}, {-1, 2, 3}};
        for (int place = 0; place < 7; place++) {
            for (int i = 0; i < 5; i++) {
                int[] args = good.clone();
                args[place] = i < 3 ? wrong[place][i] : i == 3 ? LEAST : MOST;
                all.changesNothing(Call.of("odds", args), BAD);
                args[3] = place == 3 ? args[3] : 0;
                all.changesNothing(Call.of("odds", args), BAD);
            }
        }
        all.due("odds(1, 96, 1, 5, 10, 20, 1)", 1).due("odds(0, 1, 0, 0, 0, 1, 0)", 1);
    }

    private static void shownNumbers() {
        Run all = run("18: numbers").tell("g 8 1;g 9 1;w 4;").call("shows(0, 1, 2, 3, 4)");
        String[] good = {"0, 0, 1, 0, 0", "1, 24, 96, 9, 60", "0, 24, 1, 0, 60", "1, 0, 96, 9, 0"};
        for (String args : good) all.again("18: " + args).due("shows(" + args + ")", 2).due("count(6)", 2);
        int[][] wrong = {{-1, 2, 5}, {-1, 25, 26}, {-1, 0, 97}, {-1, 10, 11}, {-1, 61, 62}};
        for (int place = 0; place < 5; place++) {
            for (int i = 0; i < 5; i++) {
                int[] args = {0, 1, 1, 1, 1};
                args[place] = i < 3 ? wrong[place][i] : i == 3 ? LEAST : MOST;
                all.changesNothing(Call.of("shows", args), BAD);
            }
        }
        run("18: no GOODBYES").tell("w 4;").changesNothing("shows(0, 0, 1, 0, 0)", BAD);
        run("18: no WOMEN are needed").tell("g 8 1;").due("shows(0, 0, 1, 0, 10)", 1).due("fits()", 1 << 2);
        run("18: of five the last").tell("g 1 1;g 1 1;g 1 1;g 1 1;g 8 1;").due("shows(4, 0, 1, 0, 10)", 1).due("fits()", 1 << 2)
            .changesNothing("shows(5, 0, 1, 0, 10)", BAD);
    }

    private static void sixAreShown() {
        Run all = run("18: SHOWN (6 at most)").tell("g 8 1;g 0 0;w 4;");
        for (int i = 1; i <= 6; i++) all.due("shows(0, 0, 1, 0, 10)", i).due("count(6)", i).due("fits()", 1 << 2);
        all.changesNothing("shows(0, 0, 1, 0, 10)", FULL).changesNothing("shows(1, 24, 96, 9, 60)", FULL);
        all.changesNothing("shows(2, 0, 1, 0, 10)", BAD).changesNothing("shows(0, 25, 1, 0, 10)", BAD).changesNothing("shows(0, 0, 97, 0, 10)", BAD)
            .changesNothing("shows(0, 0, 1, 10, 10)", BAD).changesNothing("shows(0, 0, 1, 0, 61)", BAD);
        all.due("shows(0, 0, 1, 0, 11)", FULL).due("fits()", 1 << 2).due("count(6)", 6);
        all.due("forget()", 6).due("shows(0, 0, 1, 0, 11)", 1).due("fits()", 1 << 3);
        Run last = run("20: the sixth counts").tell("g 8 1;").times(5, "shows(0, 0, 1, 0, 10)").due("fits()", 1 << 2).due("shows(0, 0, 1, 0, 11)", 6);
        last.due("fits()", 0);
        run("20: the first counts").tell("g 8 1;").call("shows(0, 0, 1, 0, 11)").times(5, "shows(0, 0, 1, 0, 10)").due("fits()", 0);
    }

    private static void forgotten() {
        run("19: nothing").changesNothing("forget()", 0);
        run("19: nothing").tell("g 8 1;").changesNothing("forget()", 0);
        for (int i = 0; i <= 6; i++) {
            run("19: " + i).tell("g 8 1;").times(i, "shows(0, 0, 1, 0, 60)").due("count(6)", i).due("forget()", i).due("count(6)", 0)
                .due("fits()", 1022).due("forget()", 0);
        }
        lively("19: nothing else").due("forget()", 1).nowIs(1, 2, 0, 0, 2, 2).countIs(2, 2, 1, 5, 21, 12, 0, 1).due("trace()", 10101).due("back(0)", 1);
    }

    private static void fitsByEachSteep() {
        run("20: of nothing SHOWN all").changesNothing("fits()", 1022);
        for (int steep = 1; steep <= 9; steep++) {
            run("20: STEEP " + steep).tell("g 8 1;s 5;").due("shows(0, 3, 8, 1, " + (7 + 2 * steep) + ")", 1).due("fits()", 1 << steep)
                .changesNothing("fits()", 1 << steep).due("shows(0, 4, 8, 8, 0)", 2).due("fits()", 1 << steep)
                .due("shows(0, 0, 1, 8, " + (steep % 9 + 1) + ")", 3).due("fits()", 0);
        }
        run("20: STEEP 0 is none").tell("g 8 1;").due("shows(0, 0, 1, 0, 8)", 1).due("fits()", 0);
        run("20: nor is 10").tell("g 8 1;").due("shows(0, 0, 1, 0, 18)", 1).due("fits()", 0);
        run("20: two of different GOODBYES").tell("g 8 1;g 3 1;").due("shows(0, 0, 2, 0, 12)", 1).due("shows(1, 0, 2, 0, 7)", 2).due("fits()", 1 << 2)
            .due("shows(1, 0, 2, 0, 12)", 3).due("fits()", 0);
        run("20: TRUST and LIKING of now are no matter").tell("g 0 3;w 9;").due("shows(0, 0, 3, 0, 12)", 1).call("morning(0, 1, 0)").due("fits()", 1 << 4);
    }

    private static void fitsAtTheEndsOfTime() {
        // 0 + STEEP * 3 - 9: not above 0 by STEEP 1 to 3.
        run("20: 0 minutes").tell("g 0 0;").due("shows(0, 0, 3, 9, 0)", 1).due("fits()", 2 + 4 + 8).due("shows(0, 0, 4, 9, 0)", 2).due("fits()", 2 + 4);
        // 0 + STEEP * 12: not below 60 from STEEP 5 on.
        run("20: 60 minutes").tell("g 0 0;").due("shows(0, 0, 12, 0, 60)", 1).due("fits()", 1022 - 2 - 4 - 8 - 16).due("shows(0, 0, 10, 0, 60)", 2)
            .due("fits()", 64 + 128 + 256 + 512);
        run("20: 59 minutes").tell("g 40 0;").due("shows(0, 0, 19, 0, 59)", 1).due("fits()", 2);
        run("20: not beyond twice TRUST").tell("g 8 0;").due("shows(0, 24, 48, 0, 8)", 1).due("fits()", 1022).due("shows(0, 24, 49, 0, 9)", 2).due("fits()", 2);
    }
}
