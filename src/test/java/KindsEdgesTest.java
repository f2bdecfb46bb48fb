/** Part 4 of the document, kinds, THE TRACE and images, and its edges. Promises 21 to 25. */
public final class KindsEdgesTest {
    private static final int BAD = -1, STATE = -2, NONE = -9, NO = -1000000;
    private static final int LEAST = Integer.MIN_VALUE, MOST = Integer.MAX_VALUE;
    private static final int[] ADDED = {1, 11, 101, 1011, 10101, 100001};
    private static final Checks C = new Checks();

    public static void main(String[] args) {
        ratesAtTheirLeast();
        ratesAtTheirMost();
        ratesOfEachGoodbye();
        wrongRates();
        ratesChangeTheTraceAlone();
        eachBodyOnce();
        theTraceStays();
        imagesThereAre();
        noneWasKept();
        whatAnImageKeeps();
        whatAnImageDoesNotKeep();
        nothingIsUndoneBehindBack();
        keptAnew();
        imagesAreGone();
        imagesOfEverythingAtItsEnds();
        C.end();
    }

    private static Run run(String title) {
        return new Run(C, title);
    }

    private static Run rates(Run all, int g, int... wants) {
        for (int kind = 0; kind < 6; kind++) all.due("rate(" + kind + ", " + g + ")", wants[kind]);
        return all;
    }

    private static void ratesAtTheirLeast() {
        rates(run("21: TEARS 0, GAIN 0, TRUST 0, DAY 0").tell("g 0 0;"), 0, 0, 0, 0, 0, 0, 0);
        Run far = run("21: below 0").tell("g 0 0;g 0 3;w 9;").times(8, "morning(1, 1, 0)").due("now(1)", 24);
        rates(far, 0, 0, 0, -24, 0, -24, 8);
        rates(far, 1, 0, 3, -24, 6, -23, 8);
    }

    private static void ratesAtTheirMost() {
        rates(run("21: TEARS 40, GAIN 3").tell("g 1 1;g 1 1;g 1 1;g 1 1;g 40 3;"), 4, 40, 43, 40, 86, 44, 40);
        rates(run("21: DAY 999").tell("g 40 3;").times(111, "home(9)").due("now(0)", 999), 0, 40, 43, 40, 86, 40, 1039);
    }

    private static void ratesOfEachGoodbye() {
        Run all = run("21: each GOODBYE").tell("g 10 0;g 11 1;g 12 2;g 13 3;g 14 0;w 9;").call("home(5)");
        for (int g = 0; g < 5; g++) {
            int tears = 10 + g;
            int gain = g % 4;
            rates(all, g, tears, tears + gain, tears, 2 * (tears + gain), tears + g, tears + 5);
        }
    }

    private static void wrongRates() {
        Run all = run("21: NO: BAD").tell("g 9 2;g 8 1;w 9;").call("morning(0, 1, 0)").call("rate(3, 1)").call("keep(0)");
        for (int kind : new int[] {-1, 6, 7, LEAST, MOST}) all.changesNothing(Call.of("rate", kind, 0), NO);
        for (int kind = -1; kind <= 6; kind++) {
            for (int g : new int[] {-1, 2, 5, LEAST, MOST}) all.changesNothing(Call.of("rate", kind, g), NO);
        }
        run("21: no GOODBYES").changesNothing("rate(0, 0)", NO).changesNothing("rate(5, 0)", NO);
        run("21: of five no sixth").tell("g 1 1;g 1 1;g 1 1;g 1 1;g 1 1;").due("rate(0, 4)", 1).changesNothing("rate(0, 5)", NO);
    }

    private static void ratesChangeTheTraceAlone() {
        for (int kind = 0; kind < 6; kind++) {
            run("21: nothing else by kind " + kind).tell("g 9 2;w 9;").call("morning(0, 1, 0)").call("keep(1)").call("falls(0, 1)").call("shows(0, 0, 1, 0, 11)")
                .types("g").call("rate(" + kind + ", 0)").due("trace()", ADDED[kind]).nowIs(1, 2, 0, NONE, 1, 2).likings(9)
                .countIs(1, 1, 2, 5, 25, 48, 1, 1).due("fits()", 1 << 2).due("undo()", 1).due("undo()", 0).due("back(1)", 1).due("trace()", ADDED[kind]);
        }
    }

    private static void eachBodyOnce() {
        run("25: 0 at first").changesNothing("trace()", 0);
        for (int kind = 0; kind < 6; kind++) {
            Run all = run("25: kind " + kind).tell("g 9 2;g 0 0;").due("trace()", 0);
            for (int often = 1; often <= 12; often++) all.call("rate(" + kind + ", " + often % 2 + ")").due("trace()", (long) ADDED[kind] * often);
            all.changesNothing("trace()", 12L * ADDED[kind]);
        }
        Run most = run("25: as much as 512 calls can").tell("g 9 2;");
        int left = Run.MOST_CALLS - 1 - most.calls();
        most.times(left, "rate(5, 0)").due("trace()", 100001L * left);
    }

    private static void theTraceStays() {
        Run all = run("25: stays").tell("g 9 2;w 9;").call("keep(0)").call("morning(0, 1, 0)").call("rate(4, 0)").due("trace()", 10101);
        all.due("rate(6, 0)", NO).due("rate(0, 1)", NO).due("trace()", 10101);
        all.due("undo()", 0).due("trace()", 10101).due("back(0)", 0).due("trace()", 10101).due("forget()", 0).due("clear()", 0).due("trace()", 10101);
    }

    private static void imagesThereAre() {
        Run all = run("22, 23: IMAGES 0, 1").tell("g 9 2;w 9;").call("morning(0, 1, 0)");
        for (int image = 0; image < 2; image++) all.again("22: image " + image).due("keep(" + image + ")", 1).due("back(" + image + ")", 1);
        for (int image : new int[] {-1, 2, 3, LEAST, MOST}) {
            all.changesNothing("keep(" + image + ")", BAD).changesNothing("back(" + image + ")", BAD);
        }
        Run both = all.again("22, 23: both kept").call("keep(0)").call("home(1)").call("keep(1)").call("home(1)");
        for (int image : new int[] {-1, 2, LEAST, MOST}) both.changesNothing("keep(" + image + ")", BAD).changesNothing("back(" + image + ")", BAD);
    }

    private static void noneWasKept() {
        run("23: of a new object").changesNothing("back(0)", STATE).changesNothing("back(1)", STATE);
        Run all = run("23: none was kept").tell("g 9 2;w 9;").call("morning(0, 1, 0)").changesNothing("back(0)", STATE).changesNothing("back(1)", STATE);
        all.again("23: 0 alone").call("keep(0)").changesNothing("back(1)", STATE).due("back(0)", 1);
        all.again("23: 1 alone").call("keep(1)").changesNothing("back(0)", STATE).due("back(1)", 1);
        all.again("22: a wrong one keeps none").call("keep(2)").call("keep(-1)").due("back(0)", STATE).due("back(1)", STATE);
        run("22: DAY 0 is kept, too").call("keep(1)").call("home(3)").due("back(1)", 0).due("now(0)", 0);
    }

    private static Run changed(String title) {
        return run(title).tell("g 0 2;g 40 0;w 5;w 6;z 1;").call("keep(1)").call("falls(1, 1)").call("morning(0, 1, 0)").nowIs(1, 2, 1, 0, 2, 2).likings(6, 6);
    }

    private static void whatAnImageKeeps() {
        Run all = changed("22: keeps NOW").due("keep(0)", 1).due("falls(1, 0)", 0).due("falls(0, 1)", 1).due("morning(1, 96, 1)", 60).due("home(9)", 0);
        all.nowIs(11, 0, 1, 1, 1, 6).likings(6, 5);
        all.due("back(0)", 1).nowIs(1, 2, 1, 0, 2, 0).likings(6, 6);
        all.due("back(1)", 0).nowIs(0, 0, 0, 0, 0, 0).likings(5, 6);
        all.due("back(0)", 1).nowIs(1, 2, 1, 0, 2, 0).likings(6, 6);
        all.due("home(1)", 1).due("back(0)", 1).nowIs(1, 2, 1, 0, 2, 0);
    }

    private static void whatAnImageDoesNotKeep() {
        Run all = changed("22: nothing else").call("shows(0, 0, 1, 0, 2)").types("w").call("rate(0, 0)").due("keep(0)", 1);
        all.call("shows(0, 0, 1, 0, 3)").types(" 1").call("rate(1, 0)");
        all.due("back(0)", 1).due("count(6)", 2).due("count(7)", 3).due("trace()", 12).due("fits()", 0);
        all.due("forget()", 2).due("clear()", 3).due("back(0)", 1).due("count(6)", 0).due("count(7)", 0).due("trace()", 12).due("fits()", 1022);
        changed("22: keep() itself changes nothing else").changesNothing("now(0)", 1).due("keep(0)", 1).nowIs(1, 2, 1, 0, 2, 2).likings(6, 6)
            .due("undo()", 1).due("undo()", 0);
    }

    private static void nothingIsUndoneBehindBack() {
        Run all = changed("nothing can be UNDONE behind back()").due("keep(0)", 1).due("now(5)", 2).due("back(0)", 1).due("now(5)", 0);
        all.changesNothing("undo()", STATE);
        all.due("home(1)", 1).due("now(5)", 1).due("undo()", 0).due("now(0)", 1).due("undo()", STATE);
        Run full = changed("behind ten").call("keep(0)").times(12, "home(1)").due("now(5)", 10).due("back(0)", 1).due("undo()", STATE);
        full.times(12, "home(1)").due("now(5)", 10);
        changed("a back() that is refused leaves them").call("back(2)").due("now(5)", 2).due("undo()", 1);
        changed("an image stays behind undo()").due("keep(0)", 1).due("undo()", 1).due("undo()", 0).due("back(0)", 1).nowIs(1, 2, 1, 0, 2, 0);
    }

    private static void keptAnew() {
        Run all = changed("22: kept anew").due("keep(1)", 1).due("home(4)", 0).due("back(1)", 1).due("now(0)", 1).due("home(2)", 0).due("keep(0)", 3)
            .due("keep(1)", 3).due("home(1)", 0).due("back(0)", 3).due("back(1)", 3);
        all.due("now(0)", 3);
    }

    private static void imagesAreGone() {
        Run all = changed("read anew").call("keep(0)").tell("g 0 2;g 40 0;w 5;w 6;z 1;");
        all.changesNothing("back(0)", STATE).changesNothing("back(1)", STATE).changesNothing("back(2)", BAD);
        all.due("keep(1)", 0).due("back(1)", 0).due("back(0)", STATE);
        changed("not by a text with a FAULT").call("keep(0)").types("?").due("nursery()", -10).due("back(0)", 1).due("back(1)", 0);
        changed("by an empty text").call("keep(0)").due("nursery()", 0).due("back(0)", STATE).due("back(1)", STATE);
    }

    private static void imagesOfEverythingAtItsEnds() {
        Run all = run("22: everything at its most").tell("g 0 3;w 9;w 9;w 9;w 9;z 1;").call("keep(1)").times(110, "home(9)").call("home(1)")
            .times(8, "morning(0, 1, 3)").nowIs(999, 24, 1, 0, 0, 9 + 1);
        for (int w = 0; w < 4; w++) all.call("falls(" + w + ", 1)");
        all.due("keep(0)", 999).due("back(1)", 0).nowIs(0, 0, 0, 0, 0, 0).likings(9, 9, 9, 9);
        all.due("back(0)", 999).nowIs(999, 24, 1, NONE, 15, 0).likings(9, 9, 9, 9);
        for (int w = 0; w < 4; w++) all.due("woman(" + w + ", 1)", 1);
        run("22: LIKINGS 0").tell("g 0 3;w 0;w 1;w 0;w 2;").call("keep(0)").call("morning(0, 1, 0)").call("morning(0, 1, 2)").likings(1, 1, 1, 2)
            .due("back(0)", 0).likings(0, 1, 0, 2);
    }
}
