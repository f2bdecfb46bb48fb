/** Part 2 of the document, what is done day by day, and its edges. Promises 5 to 11. */
public final class DayEdgesTest {
    private static final int BAD = -1, STATE = -2, NONE = -9;
    private static final int LEAST = Integer.MIN_VALUE, MOST = Integer.MAX_VALUE;
    private static final Checks C = new Checks();

    public static void main(String[] args) {
        atFirst();
        whatIsAsked();
        lengths();
        noLessThan0();
        noMoreThan60();
        twiceTrust();
        calmAndWild();
        trustIs24AtMost();
        trustIs0AtLeast();
        likingIs9AtMost0AtLeast();
        doneByGoal();
        doneFromThenOn();
        theLastDayByMornings();
        theLastDayByHome();
        homeDays();
        trustLostAtHome();
        ill();
        sheIsIll();
        undoneOneByOne();
        tenAreKnown();
        whatIsNotUndone();
        allIsUndone();
        fiveHundredAndTwelveCalls();
        C.end();
    }

    private static Run run(String title) {
        return new Run(C, title);
    }

    /** Two women, three goodbyes by which he stays calm with either, one by which he is wild. */
    private static Run ordinary(String title) {
        return run(title).tell("g 0 1;g 0 2;g 0 3;g 40 0;w 5;w 5;s 2;");
    }

    /** TRUST as told, by mornings with woman 1, so that woman 0 stays as she was. */
    private static Run atTrust(String title, int trust) {
        return ordinary(title).times(trust, "morning(0, 1, 1)").due("now(1)", trust);
    }

    private static Run atLastDay(String title) {
        return ordinary(title).call("morning(2, 1, 0)").call("keep(0)").times(110, "home(9)").call("home(8)").due("now(0)", 999);
    }

    private static void atFirst() {
        ordinary("THE DAY is 0, TRUST 0, nobody is ill, it is not DONE").nowIs(0, 0, 0, 0, 0, 0).due("woman(0, 1)", 0).due("woman(1, 1)", 0);
    }

    private static void whatIsAsked() {
        Run all = run("5, 6, 7").tell("g 40 0;g 0 3;w 0;w 9;").call("falls(1, 1)").call("morning(1, 1, 0)").call("keep(1)");
        all.changesNothing("goodbye(0, 0)", 40).changesNothing("goodbye(0, 1)", 0).changesNothing("goodbye(1, 0)", 0).changesNothing("goodbye(1, 1)", 3);
        all.changesNothing("woman(0, 0)", 1).changesNothing("woman(0, 1)", 0).changesNothing("woman(0, 2)", 1);
        all.changesNothing("woman(1, 0)", 9).changesNothing("woman(1, 1)", 1).changesNothing("woman(1, 2)", 1);
        int[] nows = {1, 3, 0, 0, 2, 2};
        for (int what = 0; what < 6; what++) all.changesNothing("now(" + what + ")", nows[what]);
        for (int v : new int[] {-1, 2, LEAST, MOST}) {
            all.changesNothing(Call.of("goodbye", v, 0), BAD).changesNothing(Call.of("goodbye", 0, v), BAD);
            all.changesNothing(Call.of("woman", v, 0), BAD);
        }
        for (int v : new int[] {-1, 3, LEAST, MOST}) all.changesNothing(Call.of("woman", 0, v), BAD);
        for (int v : new int[] {-1, 6, LEAST, MOST}) all.changesNothing(Call.of("now", v), BAD);
        run("5: of all GOODBYES the last").tell("g 1 1;g 2 2;g 3 3;g 4 0;g 5 1;").due("goodbye(4, 0)", 5).due("goodbye(4, 1)", 1)
            .changesNothing("goodbye(5, 0)", BAD).changesNothing("goodbye(5, 1)", BAD);
        run("6: of all WOMEN the last").tell("w 1;w 2;w 3;w 4;").due("woman(3, 0)", 4).changesNothing("woman(4, 0)", BAD)
            .changesNothing("woman(4, 1)", BAD).changesNothing("woman(4, 2)", BAD).changesNothing("woman(32, 1)", BAD);
    }

    private static void lengths() {
        Run all = ordinary("8: LENGTH (1 .. 96)");
        all.again("8: the least").due("morning(0, 1, 0)", 0).nowIs(1, 1);
        all.again("8: the most").due("morning(0, 96, 0)", 60).nowIs(1, 0);
        for (int length : new int[] {0, 97, -1, LEAST, MOST}) all.changesNothing(Call.of("morning", 0, length, 0), BAD);
        all.again("8: the last GOODBYE and WOMAN").due("morning(3, 1, 1)", 37).nowIs(1, 0);
        for (int g : new int[] {-1, 4, 5, LEAST, MOST}) all.changesNothing(Call.of("morning", g, 1, 0), BAD);
        for (int w : new int[] {-1, 2, 4, LEAST, MOST}) all.changesNothing(Call.of("morning", 0, 1, w), BAD);
    }

    private static void noLessThan0() {
        Run all = run("no less than 0").tell("g 3 0;g 4 0;g 2 0;g 0 0;w 5;w 9;s 2;c 0;");
        all.again("3 + 2 - 5 is just 0").due("would(0, 1, 0)", 0).due("morning(0, 1, 0)", 0).due("woman(0, 0)", 6);
        all.again("4 + 2 - 5 is 1").due("would(1, 1, 0)", 1).due("morning(1, 1, 0)", 1).due("woman(0, 0)", 5);
        all.again("2 + 2 - 5 would be -1").due("would(2, 1, 0)", 0).due("morning(2, 1, 0)", 0).due("woman(0, 0)", 6);
        all.again("0 + 2 - 9 would be -7").due("would(3, 1, 1)", 0).due("morning(3, 1, 1)", 0);
    }

    private static void noMoreThan60() {
        Run all = run("no more than 60 minutes").tell("g 40 0;g 39 0;w 0;w 5;s 1;x 60;");
        all.again("39 + 20 is 59: not WILD by 60").due("would(1, 20, 0)", 59).due("morning(1, 25, 1)", 59).due("woman(1, 0)", 5);
        all.again("40 + 20 is just 60").due("would(0, 20, 0)", 60).due("morning(0, 25, 1)", 60).due("woman(1, 0)", 4);
        all.again("40 + 21 would be 61").due("would(0, 21, 0)", 60).due("morning(0, 26, 1)", 60).due("woman(1, 0)", 4);
        all.again("the most: 40 + 9 * 96").tell("g 40 0;w 0;s 9;").due("would(0, 96, 0)", 60).due("morning(0, 96, 0)", 60);
        all.again("LIKING is taken ahead of that").tell("g 40 0;w 9;s 1;").due("would(0, 28, 0)", 59).due("would(0, 29, 0)", 60).due("would(0, 30, 0)", 60);
    }

    private static void twiceTrust() {
        for (int trust = 0; trust <= 24; trust++) {
            int even = 2 * trust;
            Run all = atTrust("what LENGTH is more than twice TRUST " + trust, trust);
            if (trust > 0) all.due("would(3, " + even + ", 0)", 35).due("would(3, " + (even - 1) + ", 0)", 35).due("would(3, 1, 0)", 35);
            all.due("would(3, " + (even + 1) + ", 0)", 37).due("would(3, " + (even + 2) + ", 0)", 39);
        }
        run("by the least STEEP").tell("g 9 0;w 0;s 1;").due("would(0, 1, 0)", 10).due("would(0, 2, 0)", 11);
        run("by the greatest").tell("g 9 0;w 0;s 9;").due("would(0, 1, 0)", 18).due("would(0, 2, 0)", 27);
    }

    /** At TRUST 4, LIKING 4 he cries what LENGTH is more than 12. */
    private static void calmAndWild(int calm, int wild) {
        Run all = run("CALM " + calm + ", WILD " + wild).tell("g 0 1;w 4;w 9;s 1;c " + calm + ";x " + wild + ";")
            .times(4, "morning(0, 1, 1)").due("now(1)", 4);
        for (int minutes = 0; minutes <= 60; minutes++) {
            int more = minutes <= calm ? 1 : 0;
            boolean isWild = minutes >= wild;
            all.again("CALM " + calm + ", WILD " + wild + ", " + minutes + " minutes").due("morning(0, " + (minutes + 12) + ", 0)", minutes)
                .due("now(0)", 5).due("now(1)", isWild ? 2 : 4 + more).likings(isWild ? 3 : 4 + more, 9);
        }
    }

    private static void calmAndWild() {
        calmAndWild(0, 21);
        calmAndWild(0, 60);
        calmAndWild(5, 25);
        calmAndWild(20, 21);
        calmAndWild(20, 60);
    }

    private static void trustIs24AtMost() {
        for (int trust = 19; trust <= 24; trust++) {
            for (int g = 0; g < 3; g++) {
                atTrust("TRUST " + trust + ", GAIN " + (g + 1), trust).due("morning(" + g + ", 1, 0)", 0)
                    .due("now(1)", Math.min(24, trust + g + 1)).due("now(0)", trust + 1);
            }
        }
        run("a GAIN of 0").tell("g 0 0;w 5;").due("morning(0, 1, 0)", 0).due("now(1)", 0).likings(6);
    }

    private static void trustIs0AtLeast() {
        for (int trust = 0; trust <= 4; trust++) {
            atTrust("wild at TRUST " + trust, trust).due("morning(3, 96, 0)", 60).due("now(1)", Math.max(0, trust - 2)).likings(4);
        }
        atTrust("wild at TRUST 24", 24).due("morning(3, 96, 0)", 60).due("now(1)", 22);
    }

    private static void likingIs9AtMost0AtLeast() {
        for (int liking = 0; liking <= 9; liking++) {
            Run all = run("LIKING " + liking).tell("g 0 0;g 40 0;w " + liking + ";w 4;c 5;x 60;");
            all.again("LIKING " + liking + " by a calm morning").call("morning(0, 1, 0)").likings(Math.min(9, liking + 1), 4);
            all.again("LIKING " + liking + " by a wild one").due("morning(1, 96, 0)", 60).likings(Math.max(0, liking - 1), 4);
            all.again("LIKING " + liking + " by one that is neither").due("morning(1, 1, 0)", 42 - liking).likings(liking, 4);
        }
    }

    /** At TRUST 0 with LIKING 0 he cries as many minutes as LENGTH is. */
    private static void doneByGoal() {
        for (int goal : new int[] {1, 2, 5, 20}) {
            for (int calm : new int[] {4, 5, 20}) {
                Run all = run("GOAL " + goal + ", CALM " + calm).tell("g 0 0;w 0;s 1;c " + calm + ";z " + goal + ";");
                for (int length = 1; length <= 22; length++) {
                    all.again("GOAL " + goal + ", CALM " + calm + ", LENGTH " + length).due("morning(0, " + length + ", 0)", length)
                        .due("now(2)", length <= calm && length >= goal ? 1 : 0);
                }
            }
        }
        String far = "g 0 3;w 9;s 1;c 20;";
        run("the farthest that can be").tell(far + "z 77;").times(8, "morning(0, 1, 0)").due("morning(0, 76, 0)", 19).due("now(2)", 0)
            .due("morning(0, 78, 0)", 21).due("now(2)", 0).due("morning(0, 77, 0)", 20).due("now(2)", 1);
        run("beyond it").tell(far + "z 78;").times(8, "morning(0, 1, 0)").due("morning(0, 77, 0)", 20).due("now(2)", 0)
            .due("morning(0, 78, 0)", 21).due("now(2)", 0);
        run("GOAL is 48 at first").tell(far).times(8, "morning(0, 1, 0)").due("morning(0, 47, 0)", 0).due("now(2)", 0)
            .due("morning(0, 48, 0)", 0).due("now(2)", 1);
    }

    private static void doneFromThenOn() {
        Run done = run("DONE from then on").tell("g 0 1;g 40 0;w 5;w 0;z 2;").due("morning(0, 1, 0)", 0).due("now(2)", 0)
            .due("morning(0, 2, 0)", 0).due("now(2)", 1);
        done.again("by a wild morning").call("morning(1, 96, 0)").due("now(2)", 1);
        done.again("by a short one").call("morning(0, 1, 1)").due("now(2)", 1);
        done.again("by days at home").call("home(9)").due("now(2)", 1);
        done.again("by one who is ill").call("falls(0, 1)").due("now(2)", 1);
        done.again("once more").call("morning(0, 2, 0)").due("now(2)", 1).due("undo()", 2).due("now(2)", 1);
        done.again("not if it is UNDONE").due("undo()", 1).due("now(2)", 0);
    }

    private static void theLastDayByMornings() {
        Run all = ordinary("THE DAY (999 at most)").call("keep(0)").times(110, "home(9)").call("home(7)").due("now(0)", 997)
            .due("morning(0, 1, 0)", 0).due("now(0)", 998).due("morning(0, 1, 0)", 0).due("now(0)", 999);
        all.changesNothing("morning(0, 1, 0)", STATE).changesNothing("morning(3, 96, 1)", STATE);
        for (int v : new int[] {-1, 4, LEAST, MOST}) all.changesNothing(Call.of("morning", v, 1, 0), BAD);
        for (int v : new int[] {0, 97, LEAST, MOST}) all.changesNothing(Call.of("morning", 0, v, 0), BAD);
        for (int v : new int[] {-1, 2, LEAST, MOST}) all.changesNothing(Call.of("morning", 0, 1, v), BAD);
        all.again("she may fall ill").due("falls(0, 1)", 1).due("now(0)", 999).due("undo()", 9);
        all.again("it may be UNDONE, and done again").due("undo()", 9).due("now(0)", 998).due("morning(0, 1, 0)", 0).due("now(0)", 999)
            .due("morning(0, 1, 0)", STATE);
        all.again("it may be kept").due("keep(1)", 999).due("back(0)", 0).due("back(1)", 999).due("morning(0, 1, 0)", STATE);
        // From TRUST 2, LIKING 7: seven mornings by GAIN 3 till TRUST 23, and the last.
        all.again("what is to come is told all the same").due("now(1)", 2).due("would(0, 1, 0)", 0).due("plan(0, -1)", 8);
    }

    private static void theLastDayByHome() {
        for (int n = 1; n <= 9; n++) {
            Run all = ordinary("home(" + n + ") near DAY 999").times(110, "home(9)");
            if (n < 9) all.call("home(" + (9 - n) + ")");
            all.due("now(0)", 999 - n);
            for (int more = n + 1; more <= 9; more++) all.changesNothing("home(" + more + ")", STATE);
            for (int wrong : new int[] {-1, 0, 10, LEAST, MOST}) all.changesNothing("home(" + wrong + ")", BAD);
            all.due("home(" + n + ")", 0).due("now(0)", 999).changesNothing("home(1)", STATE).changesNothing("home(9)", STATE);
        }
        atLastDay("DAY 999").due("home(1)", STATE).due("home(10)", BAD).due("home(0)", BAD).due("now(0)", 999).due("undo()", 9).due("now(0)", 991);
    }

    private static void homeDays() {
        Run all = atTrust("HOME: n (1 .. 9)", 12).call("falls(0, 1)");
        for (int n = 1; n <= 9; n++) all.again("home(" + n + ")").due("home(" + n + ")", 12 - n).nowIs(12 + n, 12 - n).likings(5, 9).due("now(4)", 1);
        for (int n : new int[] {-1, 0, 10, 11, LEAST, MOST}) all.changesNothing("home(" + n + ")", BAD);
    }

    private static void trustLostAtHome() {
        for (int trust = 0; trust <= 10; trust++) {
            Run all = atTrust("at home", trust);
            for (int n = 1; n <= 9; n++) all.again("TRUST " + trust + ", home(" + n + ")").due("home(" + n + ")", Math.max(0, trust - n)).due("now(1)", Math.max(0, trust - n));
        }
        atTrust("TRUST 24 at home", 24).due("home(9)", 15).due("home(9)", 6).due("home(9)", 0);
    }

    private static void ill() {
        Run all = run("ILL").tell("g 0 1;w 1;w 2;w 3;w 4;");
        for (int w = 0; w < 4; w++) {
            all.changesNothing("falls(" + w + ", 0)", STATE);
            all.again("woman " + w).due("falls(" + w + ", 1)", 1).due("now(4)", 1 << w).due("woman(" + w + ", 1)", 1).nowIs(0, 0, 0)
                .changesNothing("falls(" + w + ", 1)", STATE).due("falls(" + w + ", 0)", 0).due("now(4)", 0).changesNothing("falls(" + w + ", 0)", STATE);
        }
        for (int w : new int[] {-1, 4, 5, 31, 32, 33, LEAST, MOST}) {
            all.changesNothing(Call.of("falls", w, 1), BAD).changesNothing(Call.of("falls", w, 0), BAD);
        }
        for (int is : new int[] {-1, 2, LEAST, MOST}) all.changesNothing(Call.of("falls", 0, is), BAD);
        Run sick = all.again("all").due("falls(0, 1)", 1).due("falls(1, 1)", 2).due("falls(2, 1)", 3).due("falls(3, 1)", 4).due("now(4)", 15).due("now(3)", NONE);
        for (int w = 0; w < 4; w++) sick.changesNothing("falls(" + w + ", 1)", STATE);
        for (int is : new int[] {-1, 2, LEAST, MOST}) sick.changesNothing(Call.of("falls", 3, is), BAD);
        sick.due("falls(0, 0)", 3).due("falls(3, 0)", 2).due("now(4)", 6);
    }

    private static void sheIsIll() {
        Run all = ordinary("8: she is ill").call("keep(0)").call("falls(1, 1)");
        all.changesNothing("morning(0, 1, 1)", STATE).changesNothing("morning(3, 96, 1)", STATE);
        all.changesNothing("morning(4, 1, 1)", BAD).changesNothing("morning(-1, 1, 1)", BAD).changesNothing("morning(0, 0, 1)", BAD)
            .changesNothing("morning(0, 97, 1)", BAD);
        all.again("the other is not").due("morning(0, 1, 0)", 0);
        all.again("nor is she, then").due("falls(1, 0)", 0).due("morning(0, 1, 1)", 0);
        all.again("nor if that is UNDONE").due("undo()", 0).due("morning(0, 1, 1)", 0);
        all.again("nor by an IMAGE").due("back(0)", 0).due("morning(0, 1, 1)", 0);
        atLastDay("ill at DAY 999").call("falls(1, 1)").changesNothing("morning(0, 1, 1)", STATE).changesNothing("morning(0, 97, 1)", BAD);
    }

    private static void undoneOneByOne() {
        run("11: none").changesNothing("undo()", STATE);
        ordinary("11: none").changesNothing("undo()", STATE);
        Run all = ordinary("11: one of each").due("morning(2, 1, 0)", 0).due("now(5)", 1).due("home(1)", 2).due("now(5)", 2)
            .due("falls(0, 1)", 1).due("now(5)", 3).due("morning(3, 96, 1)", 60).due("now(5)", 4);
        all.nowIs(3, 0, 0, 1, 1, 4).likings(6, 4);
        all.due("undo()", 3).nowIs(2, 2, 0, 1, 1, 3).likings(6, 5);
        all.due("undo()", 2).nowIs(2, 2, 0, 0, 0, 2).likings(6, 5);
        all.due("undo()", 1).nowIs(1, 3, 0, 0, 0, 1).likings(6, 5);
        all.due("undo()", 0).nowIs(0, 0, 0, 0, 0, 0).likings(5, 5);
        all.changesNothing("undo()", STATE).due("undo()", STATE).due("home(1)", 0).due("undo()", 0);
    }

    private static void tenAreKnown() {
        for (int often = 1; often <= 25; often++) {
            Run all = ordinary("UNDONE behind " + often).times(often, "home(1)").due("now(5)", Math.min(10, often));
            for (int left = Math.min(10, often) - 1, day = often - 1; left >= 0; left--, day--) all.due("undo()", left).due("now(0)", day);
            all.due("undo()", STATE).due("now(0)", Math.max(0, often - 10)).due("now(5)", 0).changesNothing("undo()", STATE);
        }
        Run mixed = ordinary("older ones are lost, of whatever kind").call("morning(2, 1, 0)").times(5, "home(1)").call("falls(0, 1)")
            .times(4, "home(2)").due("now(5)", 10);
        for (int left = 9; left >= 0; left--) mixed.due("undo()", left);
        mixed.nowIs(1, 3, 0, 0, 0, 0).due("undo()", STATE);
        ordinary("lost ones don't come again").times(12, "home(1)").times(3, "undo()").times(2, "home(1)").due("now(5)", 9).due("now(0)", 11)
            .times(9, "undo()").due("now(0)", 2).due("undo()", STATE);
    }

    private static void whatIsNotUndone() {
        Run all = ordinary("11: of what is none of these").call("home(1)").call("morning(0, 97, 0)").call("home(0)").call("falls(0, 0)").call("falls(0, 2)")
            .call("morning(9, 1, 0)").call("would(0, 1, 0)").call("plan(0, -1)").call("keep(0)").call("shows(0, 0, 1, 0, 1)").call("rate(0, 0)")
            .call("type(32)").call("clear()").call("type(103)").due("now(5)", 1);
        all.due("undo()", 0).due("now(0)", 0).due("count(6)", 1).due("count(7)", 1).due("trace()", 1).due("undo()", STATE)
            .due("back(0)", 1).due("undo()", STATE);
        ordinary("undo() itself is not").call("home(1)").call("home(2)").due("undo()", 1).due("undo()", 0).due("now(0)", 0);
    }

    private static void allIsUndone() {
        Run all = run("TRUST 24, LIKINGS 9 and 0, DAY 997, all ill, DONE").tell("g 0 3;g 40 0;w 9;w 0;w 9;w 1;z 1;").call("morning(0, 1, 0)")
            .times(109, "home(9)").call("home(4)").times(8, "morning(0, 1, 0)").due("morning(1, 96, 3)", 60)
            .due("morning(0, 1, 0)", 0).due("morning(0, 1, 0)", 0).nowIs(997, 24, 1, 0, 0, 10).likings(9, 0, 9, 0);
        for (int w = 0; w < 4; w++) all.call("falls(" + w + ", 1)");
        all.due("home(2)", 22).due("now(0)", 999).due("undo()", 9).nowIs(997, 24, 1, NONE, 15, 9).likings(9, 0, 9, 0);
        for (int w = 3; w >= 0; w--) all.due("undo()", 5 + w).due("now(4)", (1 << w) - 1);
        all.due("undo()", 4).due("now(1)", 24).due("now(0)", 996).due("undo()", 3).due("now(1)", 22).likings(9, 0, 9, 0)
            .due("undo()", 2).due("now(1)", 24).likings(9, 0, 9, 1);
    }

    /** What is asked last of 512 calls is still answered as told; and what comes later, at least, does not throw. */
    private static void fiveHundredAndTwelveCalls() {
        Run all = ordinary("512 calls");
        all.times(Run.MOST_CALLS - 6 - all.calls(), "rate(5, 0)");
        all.due("morning(2, 1, 0)", 0).due("plan(0, -1)", 7).due("home(1)", 2).due("undo()", 1).due("now(1)", 3).due("morning(2, 96, 0)", 60);
        C.due("512 calls were made", all.calls(), Run.MOST_CALLS);
        DoorMornings later = new DoorMornings();
        for (int i = 0; i < 2000; i++) {
            for (Call call : Probes.ALL.get(i % Probes.ALL.size())) call.on(later);
        }
    }
}
