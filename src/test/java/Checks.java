import java.util.List;

/** What the tests of the project share: answers compared, and texts told. */
final class Checks {
    private int wrong = 0;
    private int seen = 0;

    void due(String call, long got, long want) {
        seen++;
        if (got != want) {
            wrong++;
            System.out.println(call + " answered " + got + ", due is " + want);
        }
    }

    void holds(String what, boolean is) {
        seen++;
        if (!is) {
            wrong++;
            System.out.println("does not hold: " + what);
        }
    }

    /** The same calls on two objects: the same answers. */
    void same(String what, List<Call> calls, DoorMornings one, DoorMornings other) {
        seen++;
        for (Call call : calls) {
            long got = call.on(one);
            long want = call.on(other);
            if (got == want) continue;
            wrong++;
            System.out.println(what + ", " + call + " answered " + got + ", due is " + want);
            return;
        }
    }

    int wrongs() {
        return wrong;
    }

    void end() {
        System.out.println(seen + " checks, " + wrong + " wrong");
        if (wrong != 0 || seen == 0) System.exit(1);
    }

    static void type(DoorMornings x, String text) {
        for (int i = 0; i < text.length(); i++) x.type(text.charAt(i));
    }

    static int tell(DoorMornings x, String text) {
        x.clear();
        type(x, text);
        return x.nursery();
    }

    static DoorMornings told(String text) {
        DoorMornings x = new DoorMornings();
        int items = tell(x, text);
        if (items < 0) throw new IllegalStateException("the test's own text has a fault: " + text + " " + items);
        return x;
    }
}
