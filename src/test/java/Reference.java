import java.math.BigInteger;
import java.util.ArrayDeque;
import java.util.ArrayList;
import java.util.Arrays;
import java.util.Deque;
import java.util.List;

/**
 * The document once more, by other ways than the class goes: every LENGTH is tried, every outcome is followed.
 * It is slow, and it makes objects as it likes.
 */
final class Reference {
    private static final int NO = -1000000;

    private record Shown(int g, int trust, int length, int liking, int t) { }

    private record Day(int day, int trust, List<Integer> likings, List<Boolean> ill, boolean done) { }

    private final StringBuilder text = new StringBuilder();
    private List<int[]> goodbyes = new ArrayList<>();
    private int[] settings = {2, 5, 25, 48};
    private Day now = new Day(0, 0, List.of(), List.of(), false);
    private final Deque<Day> past = new ArrayDeque<>();
    private final List<Shown> shown = new ArrayList<>();
    private final Day[] images = new Day[2];
    private long trace = 0;
    private int[][] fewest = null;

    int type(int letter) {
        if (letter < 0 || letter > 255) return -1;
        if (text.length() == 120) return -3;
        text.append((char) letter);
        return text.length();
    }

    int clear() {
        int n = text.length();
        text.setLength(0);
        return n;
    }

    private record Token(int place, String what) { }

    private List<Token> tokens() {
        List<Token> all = new ArrayList<>();
        int i = 0;
        while (i < text.length()) {
            int from = i;
            while (i < text.length() && Character.isDigit(text.charAt(i)) && text.charAt(i) < 128) i++;
            if (i == from) i++;
            String what = text.substring(from, i);
            if (!what.equals(" ")) all.add(new Token(from, what));
        }
        return all;
    }

    int nursery() {
        List<Token> tokens = tokens();
        List<int[]> newGoodbyes = new ArrayList<>();
        List<Integer> newLikings = new ArrayList<>();
        int[] newSettings = {2, 5, 25, 48};
        boolean[] had = new boolean[4];
        int[][] ranges = {{1, 9}, {0, 20}, {21, 60}, {1, 96}};
        int items = 0;
        int i = 0;
        while (i < tokens.size()) {
            String letter = tokens.get(i).what;
            int which = letter.length() == 1 ? "scxz".indexOf(letter) : -1;
            int[][] numbers;
            if (letter.equals("g") && newGoodbyes.size() < 5) numbers = new int[][] {{0, 40}, {0, 3}};
            else if (letter.equals("w") && newLikings.size() < 4) numbers = new int[][] {{0, 9}};
            else if (which >= 0 && !had[which]) numbers = new int[][] {ranges[which]};
            else return -10 - tokens.get(i).place;
            i++;
            int[] values = new int[numbers.length];
            for (int k = 0; k <= numbers.length; k++, i++) {
                if (i == tokens.size()) return -10 - text.length();
                String token = tokens.get(i).what;
                boolean good = k == numbers.length ? token.equals(";")
                    : token.matches("0|[1-9][0-9]?") && Integer.parseInt(token) >= numbers[k][0] && Integer.parseInt(token) <= numbers[k][1];
                if (!good) return -10 - tokens.get(i).place;
                if (k < numbers.length) values[k] = Integer.parseInt(token);
            }
            if (letter.equals("g")) newGoodbyes.add(values);
            else if (letter.equals("w")) newLikings.add(values[0]);
            else {
                had[which] = true;
                newSettings[which] = values[0];
            }
            items++;
        }
        goodbyes = newGoodbyes;
        settings = newSettings;
        List<Boolean> well = new ArrayList<>();
        for (int w = 0; w < newLikings.size(); w++) well.add(false);
        now = new Day(0, 0, newLikings, well, false);
        past.clear();
        shown.clear();
        Arrays.fill(images, null);
        text.setLength(0);
        fewest = null;
        return items;
    }

    private boolean isG(int g) { return g >= 0 && g < goodbyes.size(); }

    private boolean isW(int w) { return w >= 0 && w < now.likings.size(); }

    private boolean isL(int l) { return l >= 1 && l <= 96; }

    private int cry(int steep, int g, int trust, int length, int liking) {
        int m = goodbyes.get(g)[0];
        if (length > 2 * trust) m += steep * (length - 2 * trust);
        m -= liking;
        return m < 0 ? 0 : m > 60 ? 60 : m;
    }

    int goodbye(int g, int what) {
        return isG(g) && (what == 0 || what == 1) ? goodbyes.get(g)[what] : -1;
    }

    int woman(int w, int what) {
        if (!isW(w) || what < 0 || what > 2) return -1;
        if (what == 0) return now.likings.get(w);
        if (what == 1) return now.ill.get(w) ? 1 : 0;
        int best = -9;
        for (int g = 0; g < goodbyes.size(); g++) {
            int far = farthest(g, w);
            if (far == -9) continue;
            if (best == -9 || far > farthest(best, w) || far == farthest(best, w) && goodbye(g, 1) > goodbye(best, 1)) best = g;
        }
        return best;
    }

    int now(int what) {
        switch (what) {
            case 0: return now.day;
            case 1: return now.trust;
            case 2: return now.done ? 1 : 0;
            case 3: return with();
            case 4: {
                int bits = 0;
                for (int w = 0; w < now.ill.size(); w++) if (now.ill.get(w)) bits += 1 << w;
                return bits;
            }
            case 5: return past.size();
            default: return -1;
        }
    }

    private int with() {
        int best = -9;
        int bestFar = -9;
        for (int w = 0; w < now.likings.size(); w++) {
            if (now.ill.get(w)) continue;
            for (int g = 0; g < goodbyes.size(); g++) {
                if (farthest(g, w) > bestFar) {
                    bestFar = farthest(g, w);
                    best = w;
                }
            }
        }
        return best;
    }

    private void become(Day next) {
        past.addLast(now);
        if (past.size() > 10) past.removeFirst();
        now = next;
    }

    private int[] after(int g, int trust, int liking, int minutes) {
        if (minutes <= settings[1]) return new int[] {Math.min(24, trust + goodbyes.get(g)[1]), Math.min(9, liking + 1)};
        if (minutes >= settings[2]) return new int[] {Math.max(0, trust - 2), Math.max(0, liking - 1)};
        return new int[] {trust, liking};
    }

    int morning(int g, int length, int w) {
        if (!isG(g) || !isL(length) || !isW(w)) return -1;
        if (now.ill.get(w) || now.day == 999) return -2;
        int m = would(g, length, w);
        int[] then = after(g, now.trust, now.likings.get(w), m);
        List<Integer> likings = new ArrayList<>(now.likings);
        likings.set(w, then[1]);
        become(new Day(now.day + 1, then[0], likings, now.ill, now.done || m <= settings[1] && length >= settings[3]));
        return m;
    }

    int home(int n) {
        if (n < 1 || n > 9) return -1;
        if (now.day + n > 999) return -2;
        become(new Day(now.day + n, Math.max(0, now.trust - n), now.likings, now.ill, now.done));
        return now.trust;
    }

    int falls(int w, int is) {
        if (!isW(w) || is != 0 && is != 1) return -1;
        if (now.ill.get(w) == (is == 1)) return -2;
        List<Boolean> ill = new ArrayList<>(now.ill);
        ill.set(w, is == 1);
        become(new Day(now.day, now.trust, now.likings, ill, now.done));
        return (int) ill.stream().filter(b -> b).count();
    }

    int undo() {
        if (past.isEmpty()) return -2;
        now = past.removeLast();
        return past.size();
    }

    int would(int g, int length, int w) {
        if (!isG(g) || !isL(length) || !isW(w)) return -1;
        return cry(settings[0], g, now.trust, length, now.likings.get(w));
    }

    int farthest(int g, int w) {
        if (!isG(g) || !isW(w)) return -1;
        for (int length = 96; length >= 1; length--) if (would(g, length, w) <= settings[1]) return length;
        return -9;
    }

    /** Round by round: from where it takes r MORNINGS, every MORNING there is being tried. 99: more than 60. */
    private int[][] fewest() {
        if (fewest != null) return fewest;
        int[][] all = new int[25][10];
        for (int[] row : all) Arrays.fill(row, 99);
        for (int r = 1; r <= 60; r++) {
            for (int trust = 0; trust <= 24; trust++) {
                for (int liking = 0; liking <= 9; liking++) {
                    if (all[trust][liking] == 99 && leads(all, trust, liking, r)) all[trust][liking] = r;
                }
            }
        }
        fewest = all;
        return all;
    }

    private boolean leads(int[][] all, int trust, int liking, int r) {
        for (int g = 0; g < goodbyes.size(); g++) {
            for (int length = 1; length <= 96; length++) if (isStep(all, trust, liking, r, g, length)) return true;
        }
        return false;
    }

    private boolean isStep(int[][] all, int trust, int liking, int r, int g, int length) {
        int m = cry(settings[0], g, trust, length, liking);
        boolean done = m <= settings[1] && length >= settings[3];
        if (r == 1) return done;
        int[] then = after(g, trust, liking, m);
        return !done && all[then[0]][then[1]] == r - 1;
    }

    int plan(int w, int k) {
        if (!isW(w) || k < -1) return -1;
        int[][] all = fewest();
        int trust = now.trust;
        int liking = now.likings.get(w);
        int r = all[trust][liking];
        if (r == 99) return -9;
        if (k == -1) return r;
        if (k >= r) return -5;
        for (int i = 0; ; i++, r--) {
            int first = 0;
            while (!isStep(all, trust, liking, r, first / 96, first % 96 + 1)) first++;
            int g = first / 96;
            int length = first % 96 + 1;
            if (i == k) return 100 * g + length;
            int[] then = after(g, trust, liking, cry(settings[0], g, trust, length, liking));
            trust = then[0];
            liking = then[1];
        }
    }

    /** All rows of as many MORNINGS, forwards, CALM or not. */
    int ways(int w) {
        if (!isW(w)) return -1;
        int n = plan(w, -1);
        if (n == -9) return 0;
        BigInteger[][] here = new BigInteger[25][10];
        here[now.trust][now.likings.get(w)] = BigInteger.ONE;
        for (int i = 1; ; i++) {
            BigInteger[][] next = new BigInteger[25][10];
            BigInteger ended = BigInteger.ZERO;
            for (int trust = 0; trust <= 24; trust++) {
                for (int liking = 0; liking <= 9; liking++) {
                    if (here[trust][liking] == null) continue;
                    for (int g = 0; g < goodbyes.size(); g++) {
                        for (int length = 1; length <= 96; length++) {
                            int m = cry(settings[0], g, trust, length, liking);
                            int[] then = after(g, trust, liking, m);
                            if (m <= settings[1] && length >= settings[3]) ended = ended.add(here[trust][liking]);
                            BigInteger so = next[then[0]][then[1]];
                            next[then[0]][then[1]] = so == null ? here[trust][liking] : so.add(here[trust][liking]);
                        }
                    }
                }
            }
            if (i == n) return ended.mod(BigInteger.valueOf(1000003)).intValue();
            here = next;
        }
    }

    int setback(int g, int length, int w) {
        if (!isG(g) || !isL(length) || !isW(w)) return NO;
        int[] then = after(g, now.trust, now.likings.get(w), would(g, length, w));
        int ahead = fewest()[now.trust][now.likings.get(w)];
        int behind = fewest()[then[0]][then[1]];
        return ahead == 99 || behind == 99 ? NO : behind - ahead;
    }

    int odds(int g, int length, int w, int n, int x, int d, int what) {
        if (!isG(g) || !isL(length) || !isW(w) || n < 0 || n > 5 || x < 0 || x > 10) return -1;
        if (d < 1 || d > 20 || what < 0 || what > 1) return -1;
        BigInteger upper = BigInteger.ZERO;
        BigInteger lower = BigInteger.TEN.pow(n);
        for (int fates = 0; fates < 1 << n; fates++) {
            BigInteger weight = BigInteger.ONE;
            boolean calm = true;
            int trust = now.trust;
            int liking = now.likings.get(w);
            for (int i = 0; i < n; i++) {
                boolean more = (fates >> i & 1) == 1;
                weight = weight.multiply(BigInteger.valueOf(more ? x : 10 - x));
                int m = cry(settings[0], g, trust, length, liking);
                if (more) m = Math.min(60, m + d);
                calm &= m <= settings[1];
                int[] then = after(g, trust, liking, m);
                trust = then[0];
                liking = then[1];
            }
            if (calm) upper = upper.add(weight);
        }
        BigInteger common = upper.gcd(lower);
        return (what == 0 ? upper : lower).divide(common).intValue();
    }

    int shows(int g, int trust, int length, int liking, int t) {
        if (!isG(g) || trust < 0 || trust > 24 || !isL(length) || liking < 0 || liking > 9 || t < 0 || t > 60) return -1;
        if (shown.size() == 6) return -3;
        shown.add(new Shown(g, trust, length, liking, t));
        return shown.size();
    }

    int forget() {
        int n = shown.size();
        shown.clear();
        return n;
    }

    int fits() {
        int bits = 0;
        for (int steep = 1; steep <= 9; steep++) {
            boolean all = true;
            for (Shown s : shown) all &= cry(steep, s.g, s.trust, s.length, s.liking) == s.t;
            if (all) bits += 1 << steep;
        }
        return bits;
    }

    int rate(int kind, int g) {
        if (!isG(g) || kind < 0 || kind > 5) return NO;
        int tears = goodbyes.get(g)[0];
        int gain = goodbyes.get(g)[1];
        long[] added = {1, 11, 101, 1011, 10101, 100001};
        int[] rates = {tears, tears + gain, tears - now.trust, 2 * (tears + gain), tears - now.trust + g, tears + now.day};
        trace += added[kind];
        return rates[kind];
    }

    int keep(int image) {
        if (image != 0 && image != 1) return -1;
        images[image] = now;
        return now.day;
    }

    int back(int image) {
        if (image != 0 && image != 1) return -1;
        if (images[image] == null) return -2;
        now = images[image];
        past.clear();
        return now.day;
    }

    int count(int what) {
        if (what < 0 || what > 7) return -1;
        return new int[] {goodbyes.size(), now.likings.size(), settings[0], settings[1], settings[2], settings[3], shown.size(), text.length()}[what];
    }

    long trace() {
        return trace;
    }
}
