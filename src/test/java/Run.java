import java.util.ArrayList;
import java.util.List;

/** A run of calls on one new object, each with the answer that is due; what was called is known, and can be called again. */
final class Run {
    static final int MOST_CALLS = 512;

    private final Checks checks;
    private final String title;
    private final DoorMornings x = new DoorMornings();
    private final List<Call> made = new ArrayList<>();

    Run(Checks checks, String title) {
        this.checks = checks;
        this.title = title;
    }

    private long make(Call call) {
        if (made.size() >= MOST_CALLS) throw new IllegalStateException("the test's own run is too long: " + title);
        made.add(call);
        return call.on(x);
    }

    int calls() {
        return made.size();
    }

    /** The same calls on another new object. */
    Run again(String itsTitle) {
        Run other = new Run(checks, itsTitle);
        for (Call call : made) other.make(call);
        return other;
    }

    Run due(String call, long want) {
        Call it = Call.read(call);
        checks.due(title + ": " + it, make(it), want);
        return this;
    }

    /** As often as told, whatever it answers. */
    Run times(int often, String call) {
        Call it = Call.read(call);
        for (int i = 0; i < often; i++) make(it);
        return this;
    }

    Run call(String call) {
        return times(1, call);
    }

    Run types(String text) {
        for (int i = 0; i < text.length(); i++) make(Call.of("type", text.charAt(i)));
        return this;
    }

    /** A text without a fault: what answers below 0 is wrong. */
    Run tell(String text) {
        types(text);
        long items = make(Call.of("nursery"));
        if (items < 0) checks.due(title + ": nursery() of '" + text + "' has no fault", items, 0);
        return this;
    }

    /** now(0) to now(5). */
    Run nowIs(int... wants) {
        for (int what = 0; what < wants.length; what++) due("now(" + what + ")", wants[what]);
        return this;
    }

    /** count(0) and so on. */
    Run countIs(int... wants) {
        for (int what = 0; what < wants.length; what++) due("count(" + what + ")", wants[what]);
        return this;
    }

    Run likings(int... wants) {
        for (int w = 0; w < wants.length; w++) due("woman(" + w + ", 0)", wants[w]);
        return this;
    }

    /**
     * The call, made on other objects that have had the same calls: it answers so, and behind it every call
     * answers as it does where it was not made. This run goes on as if it had not been made.
     */
    Run changesNothing(String call, long want) {
        return changesNothing(Call.read(call), want);
    }

    Run changesNothing(Call call, long want) {
        Run with = again(title + ": behind " + call);
        checks.due(title + ": " + call, with.make(call), want);
        with.answersAs(this);
        return this;
    }

    /** Behind this run every call answers as behind the other. */
    Run answersAs(Run other) {
        for (List<Call> probe : Probes.ALL) {
            if (Math.max(made.size(), other.made.size()) + probe.size() > MOST_CALLS) throw new IllegalStateException("no calls are left for a probe: " + title);
            checks.same(title, probe, again(title).x, other.again(title).x);
        }
        return this;
    }
}
