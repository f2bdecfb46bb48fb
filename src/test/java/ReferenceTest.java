import java.util.Random;

/** Runs of 512 calls, drawn by fixed seeds, each answered by the class and by the Reference. */
public final class ReferenceTest {
    private static final int RUNS = 400;
    private static final int CALLS = 512;
    private static final Checks CHECKS = new Checks();

    private final Random random;
    private final int run;
    private final DoorMornings x = new DoorMornings();
    private final Reference y = new Reference();
    private int left = CALLS;

    private ReferenceTest(int run) {
        this.run = run;
        this.random = new Random(run * 7919L + 1);
    }

    public static void main(String[] args) {
        for (int run = 0; run < RUNS && CHECKS.wrongs() < 20; run++) new ReferenceTest(run).go();
        CHECKS.end();
    }

    private void go() {
        int nextTold = 0;
        while (left > 0) {
            if (left <= nextTold || nextTold == 0) {
                tell(text());
                nextTold = left - 100 - random.nextInt(200);
                if (nextTold < 1) nextTold = -1;
            }
            call();
        }
    }

    private void same(String call, long got, long want) {
        left--;
        CHECKS.due("run " + run + ", " + left + " calls left: " + call, got, want);
    }

    private void tell(String text) {
        for (int i = 0; i < text.length(); i++) same("type", x.type(text.charAt(i)), y.type(text.charAt(i)));
        int items = y.nursery();
        same("nursery of " + text, x.nursery(), items);
        if (items < 0) same("clear", x.clear(), y.clear());
        for (int what = -1; what <= 8; what++) same("count", x.count(what), y.count(what));
    }

    private String blank() {
        return random.nextInt(5) == 0 ? "  ".substring(random.nextInt(2)) : "";
    }

    private int between(int least, int most) {
        return least + random.nextInt(most - least + 1);
    }

    /** Mostly without a fault, and kind enough that there are PLANS. */
    private String text() {
        StringBuilder s = new StringBuilder();
        boolean kind = random.nextInt(4) != 0;
        for (int i = between(1, 5); i > 0; i--) {
            s.append(blank()).append('g').append(blank()).append(between(0, kind ? 12 : 40)).append(' ').append(between(0, 3)).append(blank()).append(';');
        }
        for (int i = between(1, 4); i > 0; i--) s.append('w').append(blank()).append(between(0, 9)).append(blank()).append(';');
        if (random.nextBoolean()) s.append("s").append(between(1, kind ? 3 : 9)).append(';');
        if (random.nextBoolean()) s.append("c").append(between(0, 20)).append(';');
        if (random.nextBoolean()) s.append("x").append(between(21, 60)).append(';');
        if (random.nextBoolean()) s.append("z").append(blank()).append(between(1, kind ? 60 : 96)).append(blank()).append(';');
        if (random.nextInt(3) == 0) {
            int changes = between(1, 2);
            String letters = "gwscxz;; 0123456789!" + (char) 178;
            for (int i = 0; i < changes; i++) {
                int at = random.nextInt(s.length() + 1);
                if (random.nextBoolean()) s.insert(at, letters.charAt(random.nextInt(letters.length())));
                else s.setLength(at);
            }
        }
        return s.toString();
    }

    private int length() {
        return random.nextInt(3) == 0 ? between(0, 97) : between(1, 12);
    }

    private int g() {
        return random.nextInt(12) == 0 ? between(-1, 5) : random.nextInt(Math.max(1, y.count(0)));
    }

    private int w() {
        return random.nextInt(12) == 0 ? between(-1, 4) : random.nextInt(Math.max(1, y.count(1)));
    }

    /** Often as far as he stays CALM or a little more, so that TRUST grows. */
    private int lengthFor(int g, int w) {
        int far = y.farthest(g, w);
        if (far < 1 || random.nextInt(3) == 0) return length();
        return Math.min(96, far + between(0, 1) * between(0, 3));
    }

    private void call() {
        int g = g();
        int w = w();
        int length = lengthFor(g, w);
        String args = "(" + g + ", " + length + ", " + w + ")";
        switch (random.nextInt(24)) {
            case 0: case 1: case 2: case 3: case 4: case 5:
                same("morning" + args, x.morning(g, length, w), y.morning(g, length, w));
                for (int what = 0; what <= 5; what++) same("now(" + what + ")", x.now(what), y.now(what));
                break;
            case 6: home(between(random.nextInt(8) == 0 ? 0 : 1, random.nextInt(8) == 0 ? 10 : 3)); break;
            case 7: falls(w, random.nextInt(8) == 0 ? between(-1, 2) : y.woman(w, 1) == 1 ? 0 : 1 - between(0, 1)); break;
            case 8: same("undo()", x.undo(), y.undo()); break;
            case 9: same("would" + args, x.would(g, length, w), y.would(g, length, w)); break;
            case 10: same("farthest" + args, x.farthest(g, w), y.farthest(g, w)); break;
            case 11: case 12: plan(w); break;
            case 13: same("ways(" + w + ")", x.ways(w), y.ways(w)); break;
            case 14: same("setback" + args, x.setback(g, length, w), y.setback(g, length, w)); break;
            case 15: case 16: odds(g, length, w); break;
            case 17: case 18: shows(g); break;
            case 19: same("fits()", x.fits(), y.fits()); break;
            case 20: kinds(g); break;
            case 21: images(); break;
            case 22: looks(g, w); break;
            default: rarely(); break;
        }
    }

    private void home(int n) {
        same("home(" + n + ")", x.home(n), y.home(n));
    }

    private void falls(int w, int is) {
        same("falls(" + w + ", " + is + ")", x.falls(w, is), y.falls(w, is));
    }

    private void plan(int w) {
        int n = y.plan(w, -1);
        same("plan(" + w + ", -1)", x.plan(w, -1), n);
        int k = between(-2, n + 1 < -1 ? 2 : n + 1);
        same("plan(" + w + ", " + k + ")", x.plan(w, k), y.plan(w, k));
    }

    private void odds(int g, int length, int w) {
        boolean odd = random.nextInt(6) == 0;
        int n = odd ? between(-1, 6) : between(1, 5);
        int p = odd ? between(-1, 11) : between(0, 10);
        int d = odd ? between(0, 21) : between(1, 8);
        for (int what = odd ? -1 : 0; what <= (odd ? 2 : 1); what++) {
            same("odds of " + g + " " + length + " " + w + " " + n + " " + p + " " + d + " " + what,
                x.odds(g, length, w, n, p, d, what), y.odds(g, length, w, n, p, d, what));
        }
    }

    /** Mostly what some STEEP would make, so that FITS is not always nothing. */
    private void shows(int g) {
        int trust = between(0, 24);
        int length = between(1, 96);
        int liking = between(0, 9);
        int beyond = Math.max(0, length - 2 * trust);
        int t = Math.max(0, Math.min(60, y.goodbye(g, 0) + 2 * beyond - liking));
        if (random.nextInt(6) == 0) t = between(-1, 61);
        if (random.nextInt(12) == 0) trust = between(-1, 25);
        if (random.nextInt(12) == 0) liking = between(-1, 10);
        if (random.nextInt(12) == 0) length = between(-1, 97);
        same("shows", x.shows(g, trust, length, liking, t), y.shows(g, trust, length, liking, t));
        same("fits()", x.fits(), y.fits());
    }

    private void kinds(int g) {
        int kind = between(-1, 6);
        same("rate(" + kind + ", " + g + ")", x.rate(kind, g), y.rate(kind, g));
        same("trace()", x.trace(), y.trace());
    }

    private void images() {
        int image = random.nextInt(6) == 0 ? between(-1, 2) : between(0, 1);
        if (random.nextBoolean()) same("keep(" + image + ")", x.keep(image), y.keep(image));
        else same("back(" + image + ")", x.back(image), y.back(image));
        same("now(5)", x.now(5), y.now(5));
    }

    private void looks(int g, int w) {
        int what = between(-1, 3);
        same("goodbye(" + g + ", " + what + ")", x.goodbye(g, what), y.goodbye(g, what));
        same("woman(" + w + ", " + what + ")", x.woman(w, what), y.woman(w, what));
        same("now(" + 2 * what + ")", x.now(2 * what), y.now(2 * what));
        same("count(" + 3 * what + ")", x.count(3 * what), y.count(3 * what));
    }

    private void rarely() {
        switch (random.nextInt(8)) {
            case 0: same("forget()", x.forget(), y.forget()); break;
            case 1: same("clear()", x.clear(), y.clear()); break;
            case 2: same("type(256)", x.type(256), y.type(256)); break;
            case 3: same("type('w')", x.type('w'), y.type('w')); break;
            case 4: same("nursery()", x.nursery(), y.nursery()); break;
            default: for (int i = 0; i < 12; i++) home(9); break;
        }
    }
}
