import java.util.ArrayList;
import java.util.List;

/**
 * "Refused, and nothing changes, the first of these: BAD, STATE, FULL": every call with a wrong number, in states
 * where STATE and FULL would apply, too; and every call that is refused by STATE or FULL alone.
 */
public final class RefusedTest {
    private static final int BAD = -1, STATE = -2, FULL = -3, NO = -1000000;
    private static final int[] FAR = {Integer.MIN_VALUE, Integer.MIN_VALUE + 1, -1000, 1000, 1 << 30, Integer.MAX_VALUE};
    private static final int IMAGES = 2, KINDS = 6;
    private static final Checks C = new Checks();

    public static void main(String[] args) {
        wrongNumbers(new Run(C, "a new object"), 0, 0);
        wrongNumbers(new Run(C, "no WOMEN").tell("g 3 1;"), 1, 0);
        wrongNumbers(new Run(C, "no GOODBYES").tell("w 3;"), 0, 1);
        wrongNumbers(ordinary(), 2, 2);
        wrongNumbers(full(), 5, 4);
        wrongNumbers(lastDay(), 2, 2);
        ofState();
        ofFull();
        refusedAgainAndAgain();
        C.end();
    }

    private static Run ordinary() {
        return new Run(C, "ordinary").tell("g 6 2;g 2 1;w 3;w 6;s 1;c 5;z 12;").call("morning(0, 2, 0)").call("keep(0)").call("falls(1, 1)")
            .call("home(1)").call("shows(0, 0, 5, 0, 11)").call("rate(3, 1)").types("w 1;");
    }

    /** All women ill, ten to be UNDONE, six SHOWN, both images kept, 120 letters: all but BAD is STATE or FULL. */
    private static Run full() {
        Run all = new Run(C, "full").tell("g0 1;g0 2;g1 3;g9 0;g40 3;w9;w5;w1;w0;").call("keep(0)").times(7, "morning(1, 1, 0)").call("home(2)");
        for (int w = 0; w < 4; w++) all.call("falls(" + w + ", 1)");
        return all.call("keep(1)").times(6, "shows(0, 0, 5, 0, 10)").types("w 1;" + " ".repeat(116)).due("now(5)", 10).due("count(7)", 120).due("count(6)", 6);
    }

    private static Run lastDay() {
        return new Run(C, "DAY 999").tell("g0 1;g9 2;w3;w6;").call("keep(1)").times(110, "home(9)").call("home(8)").call("morning(0, 1, 0)")
            .call("falls(1, 1)").due("now(0)", 999);
    }

    private static List<Integer> wrongOnes(int least, int most) {
        List<Integer> all = new ArrayList<>(List.of(least - 1, most + 1));
        for (int far : FAR) all.add(far);
        return all;
    }

    /** Each number of the call in its turn beyond its two ends, the others as they are. */
    private static void wrong(Run all, int answer, String name, int[] good, int[][] ends) {
        for (int place = 0; place < good.length; place++) {
            for (int v : wrongOnes(ends[place][0], ends[place][1])) {
                int[] args = good.clone();
                args[place] = v;
                if (v < ends[place][0] || v > ends[place][1]) all.changesNothing(Call.of(name, args), answer);
            }
        }
    }

    private static void wrongNumbers(Run all, int goodbyes, int women) {
        int[] g = {0, goodbyes - 1};
        int[] w = {0, women - 1};
        int[] length = {1, 96};
        wrong(all, BAD, "type", new int[] {32}, new int[][] {{0, 255}});
        wrong(all, BAD, "goodbye", new int[] {0, 0}, new int[][] {g, {0, 1}});
        wrong(all, BAD, "woman", new int[] {0, 0}, new int[][] {w, {0, 2}});
        wrong(all, BAD, "now", new int[] {0}, new int[][] {{0, 5}});
        wrong(all, BAD, "morning", new int[] {0, 1, 0}, new int[][] {g, length, w});
        wrong(all, BAD, "home", new int[] {1}, new int[][] {{1, 9}});
        wrong(all, BAD, "falls", new int[] {0, 1}, new int[][] {w, {0, 1}});
        wrong(all, BAD, "falls", new int[] {0, 0}, new int[][] {w, {0, 1}});
        wrong(all, BAD, "would", new int[] {0, 1, 0}, new int[][] {g, length, w});
        wrong(all, BAD, "farthest", new int[] {0, 0}, new int[][] {g, w});
        wrong(all, BAD, "plan", new int[] {0, 0}, new int[][] {w, {-1, Integer.MAX_VALUE}});
        wrong(all, BAD, "ways", new int[] {0}, new int[][] {w});
        wrong(all, NO, "setback", new int[] {0, 1, 0}, new int[][] {g, length, w});
        wrong(all, BAD, "odds", new int[] {0, 1, 0, 1, 5, 5, 0}, new int[][] {g, length, w, {0, 5}, {0, 10}, {1, 20}, {0, 1}});
        wrong(all, BAD, "shows", new int[] {0, 0, 1, 0, 0}, new int[][] {g, {0, 24}, length, {0, 9}, {0, 60}});
        wrong(all, NO, "rate", new int[] {0, 0}, new int[][] {{0, KINDS - 1}, g});
        wrong(all, BAD, "keep", new int[] {0}, new int[][] {{0, IMAGES - 1}});
        wrong(all, BAD, "back", new int[] {0}, new int[][] {{0, IMAGES - 1}});
        wrong(all, BAD, "count", new int[] {0}, new int[][] {{0, 7}});
    }

    private static void ofState() {
        new Run(C, "STATE of a new object").changesNothing("undo()", STATE).changesNothing("back(0)", STATE).changesNothing("back(1)", STATE);
        ordinary().changesNothing("morning(0, 1, 1)", STATE).changesNothing("falls(1, 1)", STATE).changesNothing("falls(0, 0)", STATE).changesNothing("back(1)", STATE);
        Run sick = full();
        for (int w = 0; w < 4; w++) {
            sick.changesNothing("morning(0, 1, " + w + ")", STATE).changesNothing("morning(4, 96, " + w + ")", STATE).changesNothing("falls(" + w + ", 1)", STATE);
        }
        Run last = lastDay().changesNothing("morning(0, 1, 0)", STATE).changesNothing("morning(1, 96, 0)", STATE).changesNothing("morning(0, 1, 1)", STATE)
            .changesNothing("falls(0, 0)", STATE).changesNothing("falls(1, 1)", STATE).changesNothing("back(0)", STATE);
        for (int n = 1; n <= 9; n++) last.changesNothing("home(" + n + ")", STATE);
        Run undone = ordinary().times(3, "undo()").changesNothing("undo()", STATE);
        undone.due("undo()", STATE).nowIs(0, 0, 0);
    }

    private static void ofFull() {
        Run all = full();
        for (int letter : new int[] {0, 32, 59, 103, 255}) all.changesNothing("type(" + letter + ")", FULL);
        all.changesNothing("shows(0, 0, 1, 0, 0)", FULL).changesNothing("shows(4, 24, 96, 9, 60)", FULL);
    }

    /** Refused calls one behind another, each counted among the calls of the object, change nothing either. */
    private static void refusedAgainAndAgain() {
        Run all = full();
        String[] refused = {"type(32)", "type(-1)", "morning(0, 1, 0)", "morning(0, 97, 0)", "home(0)", "home(10)", "falls(0, 1)", "falls(4, 1)",
            "shows(0, 0, 1, 0, 0)", "shows(0, 0, 0, 0, 0)", "keep(2)", "back(-1)", "rate(6, 0)", "rate(0, 5)", "setback(0, 97, 0)", "plan(0, -2)"};
        int[] answers = {FULL, BAD, STATE, BAD, BAD, BAD, STATE, BAD, FULL, BAD, BAD, BAD, NO, NO, NO, BAD};
        for (int round = 0; round < 4; round++) for (int i = 0; i < refused.length; i++) all.due(refused[i], answers[i]);
        all.answersAs(full());
    }
}
