import java.util.Arrays;

/** One call, written as the face of the document writes it: "morning(0, 96, 0)". */
record Call(String name, int[] args) {
    static Call read(String text) {
        int open = text.indexOf('(');
        if (open < 1 || !text.endsWith(")")) throw new IllegalStateException("no call: " + text);
        String inside = text.substring(open + 1, text.length() - 1).trim();
        int[] args = inside.isEmpty() ? new int[0] : Arrays.stream(inside.split(",")).map(String::trim).mapToInt(Integer::parseInt).toArray();
        return new Call(text.substring(0, open), args);
    }

    static Call of(String name, int... args) {
        return new Call(name, args);
    }

    @Override public String toString() {
        String all = Arrays.toString(args);
        return name + "(" + all.substring(1, all.length() - 1) + ")";
    }

    long on(DoorMornings x) {
        int[] a = args;
        switch (name + "/" + a.length) {
            case "type/1": return x.type(a[0]);
            case "clear/0": return x.clear();
            case "nursery/0": return x.nursery();
            case "goodbye/2": return x.goodbye(a[0], a[1]);
            case "woman/2": return x.woman(a[0], a[1]);
            case "now/1": return x.now(a[0]);
            case "morning/3": return x.morning(a[0], a[1], a[2]);
            case "home/1": return x.home(a[0]);
            case "falls/2": return x.falls(a[0], a[1]);
            case "undo/0": return x.undo();
            case "would/3": return x.would(a[0], a[1], a[2]);
            case "farthest/2": return x.farthest(a[0], a[1]);
            case "plan/2": return x.plan(a[0], a[1]);
            case "ways/1": return x.ways(a[0]);
            case "setback/3": return x.setback(a[0], a[1], a[2]);
            case "odds/7": return x.odds(a[0], a[1], a[2], a[3], a[4], a[5], a[6]);
            case "shows/5": return x.shows(a[0], a[1], a[2], a[3], a[4]);
            case "forget/0": return x.forget();
            case "fits/0": return x.fits();
            case "rate/2": return x.rate(a[0], a[1]);
            case "keep/1": return x.keep(a[0]);
            case "back/1": return x.back(a[0]);
            case "count/1": return x.count(a[0]);
            case "trace/0": return x.trace();
            default: throw new IllegalStateException("no such call: " + this);
        }
    }
}
