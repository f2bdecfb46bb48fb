import java.util.ArrayList;
import java.util.List;

/** Rows of calls which together show all that an object holds; each is for an object of its own. */
final class Probes {
    static final List<List<Call>> ALL = List.of(
        looks(), ahead(), setbacksAndOdds(), undone(), images(), textTold(), textFilled(), textCleared(), shown(), forgotten(), kinds(), done());

    private static final int GOODBYES = 5, WOMEN = 4;

    private Probes() { }

    private static void add(List<Call> to, String name, int... args) {
        to.add(Call.of(name, args));
    }

    private static List<Call> looks() {
        List<Call> all = new ArrayList<>();
        for (int what = 0; what < 8; what++) add(all, "count", what);
        addNow(all);
        for (int w = 0; w < WOMEN; w++) for (int what = 1; what < 3; what++) add(all, "woman", w, what);
        for (int g = 0; g < GOODBYES; g++) for (int what = 0; what < 2; what++) add(all, "goodbye", g, what);
        add(all, "fits");
        add(all, "trace");
        return all;
    }

    private static void addNow(List<Call> all) {
        for (int what = 0; what < 6; what++) add(all, "now", what);
        for (int w = 0; w < WOMEN; w++) add(all, "woman", w, 0);
    }

    private static List<Call> ahead() {
        List<Call> all = new ArrayList<>();
        for (int w = 0; w < WOMEN; w++) {
            for (int g = 0; g < GOODBYES; g++) {
                add(all, "farthest", g, w);
                for (int length : new int[] {1, 7, 96}) add(all, "would", g, length, w);
            }
            for (int k : new int[] {-1, 0, 1, 2, 9}) add(all, "plan", w, k);
            add(all, "ways", w);
        }
        return all;
    }

    private static List<Call> setbacksAndOdds() {
        List<Call> all = new ArrayList<>();
        for (int w = 0; w < WOMEN; w++) {
            for (int g = 0; g < GOODBYES; g++) {
                add(all, "setback", g, 1, w);
                add(all, "setback", g, 96, w);
                add(all, "odds", g, 1, w, 3, 3, 4, 0);
                add(all, "odds", g, 1, w, 3, 3, 4, 1);
            }
        }
        return all;
    }

    private static List<Call> undone() {
        List<Call> all = new ArrayList<>();
        for (int i = 0; i < 11; i++) {
            add(all, "undo");
            addNow(all);
        }
        return all;
    }

    private static List<Call> images() {
        List<Call> all = new ArrayList<>();
        for (int image : new int[] {0, 1, 0}) {
            add(all, "back", image);
            addNow(all);
        }
        add(all, "keep", 1);
        add(all, "back", 1);
        addNow(all);
        return all;
    }

    private static List<Call> textTold() {
        List<Call> all = new ArrayList<>();
        add(all, "nursery");
        all.addAll(looks());
        add(all, "clear");
        add(all, "undo");
        return all;
    }

    private static List<Call> textFilled() {
        List<Call> all = new ArrayList<>();
        add(all, "type", ';');
        for (int i = 0; i < 120; i++) add(all, "type", ' ');
        add(all, "nursery");
        return all;
    }

    private static List<Call> textCleared() {
        List<Call> all = new ArrayList<>();
        add(all, "clear");
        add(all, "nursery");
        all.addAll(looks());
        return all;
    }

    private static List<Call> shown() {
        List<Call> all = new ArrayList<>();
        for (int i = 0; i < 7; i++) {
            add(all, "shows", 0, 0, 1, 0, 3);
            add(all, "fits");
        }
        return all;
    }

    private static List<Call> forgotten() {
        List<Call> all = new ArrayList<>();
        add(all, "forget");
        add(all, "fits");
        add(all, "count", 6);
        return all;
    }

    private static List<Call> kinds() {
        List<Call> all = new ArrayList<>();
        for (int g = 0; g < GOODBYES; g++) {
            for (int kind = 0; kind < 6; kind++) {
                add(all, "rate", kind, g);
                add(all, "trace");
            }
        }
        return all;
    }

    private static List<Call> done() {
        List<Call> all = new ArrayList<>();
        for (int w = 0; w < WOMEN; w++) {
            for (int g = 0; g < GOODBYES; g++) add(all, "morning", g, 1 + 2 * g, w);
            addNow(all);
            add(all, "falls", w, 1);
            add(all, "falls", w, 0);
        }
        add(all, "home", 1);
        addNow(all);
        add(all, "home", 9);
        addNow(all);
        return all;
    }
}
