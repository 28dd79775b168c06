import java.math.BigInteger;
import java.util.ArrayList;
import java.util.List;
import java.util.TreeSet;
import java.util.regex.Matcher;
import java.util.regex.Pattern;

/** The document once more, as slowly and plainly as it can be told, to compare the class with. */
final class PlainHarp {
    int posts = 6;
    int frost = 0;
    int[] kind = new int[8];
    int[] tune = new int[8];
    TreeSet<Integer> guards = new TreeSet<>();
    List<int[]> winds = new ArrayList<>();
    List<int[]> passes = new ArrayList<>();
    String text = "";
    BigInteger above = BigInteger.ZERO;
    BigInteger below = BigInteger.ONE;
    PlainHarp[] images = new PlainHarp[2];
    int[] refused = new int[3];

    private long refuse(int reason, long answer) {
        refused[reason]++;
        return answer;
    }

    private PlainHarp copyOfBorder() {
        PlainHarp copy = new PlainHarp();
        copy.posts = posts;
        copy.frost = frost;
        copy.kind = kind.clone();
        copy.tune = tune.clone();
        copy.guards = new TreeSet<>(guards);
        copy.winds = new ArrayList<>(winds);
        copy.passes = new ArrayList<>(passes);
        return copy;
    }

    private void takeBorder(PlainHarp other) {
        PlainHarp copy = other.copyOfBorder();
        posts = copy.posts;
        frost = copy.frost;
        kind = copy.kind;
        tune = copy.tune;
        guards = copy.guards;
        winds = copy.winds;
        passes = copy.passes;
    }

    private boolean post(int p) {
        return 0 <= p && p <= posts - 1;
    }

    private boolean wire(int w) {
        return 0 <= w && w <= posts - 2;
    }

    private static boolean is(int v, int least, int most) {
        return least <= v && v <= most;
    }

    private int loud(int w, int s) {
        int[] byKind = {s, s + 2, s - 1, s - 1, 0};
        return byKind[kind[w]];
    }

    private int note(int w, int cold) {
        int plain = (tune[w] + (kind[w] == 3 ? 0 : cold)) % 12;
        if (kind[w] != 2 && kind[w] != 3) {
            return plain;
        }
        return plain == 0 ? 11 : plain - 1;
    }

    private int distance(int p, int w) {
        int between = 0;
        for (int v = 0; v < posts - 1; v++) {
            boolean right = p <= v && v < w;
            boolean left = w < v && v < p;
            between += right || left ? 1 : 0;
        }
        return between;
    }

    private boolean hears(int p, int w, int s) {
        return loud(w, s) > distance(p, w);
    }

    private TreeSet<Integer> notesOfStep(int p, int w, int step) {
        TreeSet<Integer> notes = new TreeSet<>();
        if (hears(p, w, strength(step))) {
            notes.add(note(w, frost));
        }
        if (step == 3 && wire(w + 1) && hears(p, w + 1, 1)) {
            notes.add(note(w + 1, frost));
        }
        return notes;
    }

    private static int strength(int step) {
        return step == 0 ? 1 : step == 1 ? 2 : 3;
    }

    private static int bits(Iterable<Integer> set) {
        int sum = 0;
        for (int one : set) {
            sum += 1 << one;
        }
        return sum;
    }

    private int heardBits(int p, int minute) {
        TreeSet<Integer> notes = new TreeSet<>();
        for (int[] pass : passes) {
            if (pass[0] == minute) {
                notes.addAll(notesOfStep(p, pass[1], pass[2]));
            }
        }
        for (int[] wind : winds) {
            if (wind[0] == minute && hears(p, wind[1], 1)) {
                notes.add(note(wind[1], frost));
            }
        }
        return bits(notes);
    }

    /** The call of this name, with these numbers. */
    long call(String name, long... a) {
        int x = a.length > 0 ? (int) a[0] : 0;
        int y = a.length > 1 ? (int) a[1] : 0;
        int z = a.length > 2 ? (int) a[2] : 0;
        switch (name) {
            case "posts": return callPosts(x);
            case "wire": return callWire(x, y, z);
            case "frost": return callFrost(x);
            case "guard": return callGuard(x, y != 0);
            case "wind": return callWind(x, y);
            case "calm": return callCalm();
            case "pass": return callPass(x, y, z);
            case "undo": return callUndo();
            case "type": return callType(a[0], y);
            case "clear": return callClear();
            case "read": return callRead();
            case "sounds": return !wire(x) || !is(y, 1, 3) || !is(z, 0, 1) ? refuse(0, -2) : z == 0 ? loud(x, y) : note(x, frost);
            case "away": return !post(x) || !wire(y) ? refuse(0, -2) : distance(x, y);
            case "heard": return !post(x) || !is(y, 0, 59) ? refuse(0, -2) : heardBits(x, y);
            case "alarm": return callAlarm(x);
            case "which": return callWhich(x, y, z, (int) a[3], (int) a[4]);
            case "cover": return callCover(x);
            case "clashes": return clashesBy(frost);
            case "retune": return callRetune();
            case "slip": return callSlip(x);
            case "lot": return callLot(x, y, z);
            case "surest": return callSurest(x, y);
            case "whence": return callWhence(x, y, z);
            case "doubled": return callDoubled();
            case "doubt": return callDoubt(x, y);
            case "part": return !is(x, 0, 1) ? refuse(0, -2) : (x == 0 ? above : below).longValueExact();
            case "image": return callImage(x);
            case "from": return callFrom(x);
            case "status": return !is(x, 0, 2) ? refuse(0, -1) : refused[x];
            case "count": return callCount(x);
            case "digest": return callDigest();
            default: throw new IllegalArgumentException(name);
        }
    }

    private long callPosts(int n) {
        if (!is(n, 2, 9)) {
            return refuse(0, -2);
        }
        int was = posts;
        PlainHarp fresh = new PlainHarp();
        fresh.posts = n;
        takeBorder(fresh);
        return was;
    }

    private long callWire(int w, int k, int t) {
        if (!wire(w) || !is(k, 0, 4) || !is(t, 0, 11)) {
            return refuse(0, -2);
        }
        int was = 12 * kind[w] + tune[w];
        kind[w] = k;
        tune[w] = t;
        return was;
    }

    private long callFrost(int n) {
        if (!is(n, 0, 5)) {
            return refuse(0, -2);
        }
        int was = frost;
        frost = n;
        return was;
    }

    private long callGuard(int p, boolean there) {
        if (!post(p)) {
            return refuse(0, -2);
        }
        boolean changed = there ? guards.add(p) : guards.remove(p);
        return changed ? 1 : refuse(1, -3);
    }

    private long callWind(int minute, int w) {
        if (!is(minute, 0, 59) || !wire(w)) {
            return refuse(0, -2);
        }
        if (winds.size() == 6) {
            return refuse(2, -4);
        }
        winds.add(new int[] {minute, w});
        return winds.size() - 1;
    }

    private long callCalm() {
        int were = winds.size();
        winds.clear();
        return were;
    }

    private long callPass(int minute, int w, int step) {
        if (!is(minute, 0, 59) || !wire(w) || !is(step, 0, 3)) {
            return refuse(0, -2);
        }
        if (passes.size() == 8) {
            return refuse(2, -4);
        }
        passes.add(new int[] {minute, w, step});
        return passes.size() - 1;
    }

    private long callUndo() {
        if (passes.isEmpty()) {
            return refuse(1, -3);
        }
        passes.remove(passes.size() - 1);
        return passes.size();
    }

    private long callType(long v, int n) {
        if (!is(n, 1, 8)) {
            return refuse(0, -2);
        }
        if (text.length() + n > 200) {
            return refuse(2, -4);
        }
        String hex = String.format("%016x", v);
        for (int i = 8 - n; i < 8; i++) {
            text += (char) Integer.parseInt(hex.substring(2 * i, 2 * i + 2), 16);
        }
        return text.length();
    }

    private long callClear() {
        int had = text.length();
        text = "";
        return had;
    }

    /** Reads by calls on a fresh border, token by token; what a call refuses can not stand. */
    private long callRead() {
        List<String> tokens = new ArrayList<>();
        List<Integer> places = new ArrayList<>();
        Matcher matcher = Pattern.compile("[a-z]+|[0-9]+|[^ ]", Pattern.DOTALL).matcher(text);
        while (matcher.find()) {
            tokens.add(matcher.group());
            places.add(matcher.start());
        }
        places.add(text.length());
        tokens.add("");
        PlainHarp fresh = new PlainHarp();
        int at = 0;
        int items = 0;
        while (items == 0 || at < tokens.size() - 1) {
            int taken = fresh.takeItem(tokens, at, items == 0);
            if (taken <= 0) {
                return -10 - places.get(at - taken);
            }
            at += taken;
            items++;
        }
        takeBorder(fresh);
        return items;
    }

    /** How many tokens the item at this place takes, or less how many of them can stand. */
    private int takeItem(List<String> tokens, int at, boolean first) {
        String word = tokens.get(at);
        List<String> words = first ? List.of("posts") : List.of("wire", "frost", "guard", "wind", "pass");
        boolean spent = word.equals("wind") && winds.size() == 6 || word.equals("pass") && passes.size() == 8;
        if (!words.contains(word) || spent) {
            return 0;
        }
        int most = posts - 2;
        int[][] limits = word.equals("posts") ? new int[][] {{2, 9}}
                : word.equals("wire") ? new int[][] {{0, most}, {0, 4}, {0, 11}}
                : word.equals("frost") ? new int[][] {{0, 5}}
                : word.equals("guard") ? new int[][] {{0, posts - 1}}
                : word.equals("wind") ? new int[][] {{0, 59}, {0, most}}
                : new int[][] {{0, 59}, {0, most}, {0, 3}};
        long[] numbers = new long[3];
        for (int i = 0; i < limits.length; i++) {
            String number = tokens.get(at + 1 + i);
            if (!number.matches("[0-9][0-9]?") || !is(Integer.parseInt(number), limits[i][0], limits[i][1])) {
                return -1 - i;
            }
            numbers[i] = Integer.parseInt(number);
        }
        if (word.equals("guard")) {
            if (!guards.add((int) numbers[0])) {
                return -1;
            }
        } else {
            call(word, numbers);
        }
        return tokens.get(at + 1 + limits.length).equals(";") ? limits.length + 2 : -1 - limits.length;
    }

    private long callAlarm(int minute) {
        if (!is(minute, 0, 59)) {
            return refuse(0, -2);
        }
        return guards.stream().filter(p -> heardBits(p, minute) != 0).count();
    }

    private long callWhich(int a, int heardA, int b, int heardB, int i) {
        if (!post(a) || !post(b) || a == b || !is(heardA, 0, 4095) || !is(heardB, 0, 4095) || i < -1) {
            return refuse(0, -10);
        }
        List<Integer> found = new ArrayList<>();
        for (int w = 0; w < posts - 1; w++) {
            for (int step = 0; step < 4; step++) {
                if (bits(notesOfStep(a, w, step)) == heardA && bits(notesOfStep(b, w, step)) == heardB) {
                    found.add(10 * w + step);
                }
            }
        }
        return i == -1 ? found.size() : i < found.size() ? found.get(i) : -5;
    }

    private long callCover(int k) {
        if (!is(k, 1, 3)) {
            return refuse(0, -2);
        }
        for (int size = 0; size <= posts; size++) {
            for (int set = 0; set < 1 << posts; set++) {
                if (Integer.bitCount(set) == size && covers(set, k)) {
                    return set;
                }
            }
        }
        return -1;
    }

    private boolean covers(int set, int k) {
        for (int w = 0; w < posts - 1; w++) {
            int there = 0;
            for (int p = 0; p < posts; p++) {
                there += (set >> p & 1) == 1 && hears(p, w, 1) ? 1 : 0;
            }
            if (kind[w] != 4 && there < k) {
                return false;
            }
        }
        return true;
    }

    private boolean clash(int v, int w, int cold) {
        if (kind[v] == 4 || kind[w] == 4 || note(v, cold) != note(w, cold)) {
            return false;
        }
        for (int p = 0; p < posts; p++) {
            if (hears(p, v, 2) && hears(p, w, 2)) {
                return true;
            }
        }
        return false;
    }

    private long clashesBy(int cold) {
        long pairs = 0;
        for (int w = 0; w < posts - 1; w++) {
            for (int v = w + 1; v < posts - 1; v++) {
                pairs += clash(v, w, cold) ? 1 : 0;
            }
        }
        return pairs;
    }

    private boolean everClash(int v, int w) {
        for (int cold = 0; cold <= 5; cold++) {
            if (clash(v, w, cold)) {
                return true;
            }
        }
        return false;
    }

    private long callRetune() {
        for (int size = 0; size < posts; size++) {
            for (int set = 0; set < 1 << posts - 1; set++) {
                if (Integer.bitCount(set) == size && copyOfBorder().tunable(set, 0)) {
                    return set;
                }
            }
        }
        return -1;
    }

    /** Whether the wires from w on can be tuned, those before w being tuned already. */
    private boolean tunable(int set, int w) {
        if (w == posts - 1) {
            return true;
        }
        boolean free = (set >> w & 1) == 1;
        int kept = tune[w];
        for (int t = free ? 0 : kept; t <= (free ? 11 : kept); t++) {
            tune[w] = t;
            boolean fits = true;
            for (int v = 0; v < w; v++) {
                fits &= !everClash(v, w);
            }
            if (fits && tunable(set, w + 1)) {
                return true;
            }
        }
        tune[w] = kept;
        return false;
    }

    private long callSlip(int what) {
        if (!is(what, 0, 1)) {
            return refuse(0, -10);
        }
        long fewest = -1;
        long place = -1;
        for (int minute = 0; minute < 60; minute++) {
            for (int w = 0; w < posts - 1; w++) {
                long seen = noticed(minute, w);
                if (kind[w] != 4 && (fewest == -1 || seen < fewest)) {
                    fewest = seen;
                    place = 100 * minute + w;
                }
            }
        }
        return what == 0 ? fewest : place;
    }

    private long noticed(int minute, int w) {
        boolean blown = winds.stream().anyMatch(wind -> wind[0] == minute && wind[1] == w);
        return guards.stream().filter(p -> hears(p, w, 2) && !(blown && hears(p, w, 1))).count();
    }

    private long callLot(int k, int w, int step) {
        if (!is(k, 1, posts) || !wire(w) || !is(step, 0, 3)) {
            return refuse(0, -2);
        }
        fraction(deaf(k, w, step), lots(k));
        return 1;
    }

    private long lots(int k) {
        long all = 0;
        for (int set = 0; set < 1 << posts; set++) {
            all += Integer.bitCount(set) == k ? 1 : 0;
        }
        return all;
    }

    private long deaf(int k, int w, int step) {
        long deaf = 0;
        for (int set = 0; set < 1 << posts; set++) {
            boolean heard = false;
            for (int p = 0; p < posts; p++) {
                heard |= (set >> p & 1) == 1 && hears(p, w, strength(step));
            }
            deaf += Integer.bitCount(set) == k && !heard ? 1 : 0;
        }
        return deaf;
    }

    private void fraction(long up, long down) {
        BigInteger common = BigInteger.valueOf(up).gcd(BigInteger.valueOf(down));
        above = BigInteger.valueOf(up).divide(common);
        below = BigInteger.valueOf(down).divide(common);
    }

    private long callSurest(int k, int step) {
        if (!is(k, 1, posts) || !is(step, 0, 3)) {
            return refuse(0, -2);
        }
        int best = -1;
        for (int w = posts - 2; w >= 0; w--) {
            if (kind[w] != 4 && (best == -1 || deaf(k, w, step) >= deaf(k, best, step))) {
                best = w;
            }
        }
        if (best >= 0) {
            fraction(deaf(k, best, step), lots(k));
        }
        return best;
    }

    private long callWhence(int p, int wanted, int s) {
        if (!post(p) || !is(wanted, 0, 11) || !is(s, 1, 3)) {
            return refuse(0, -2);
        }
        TreeSet<Integer> wires = new TreeSet<>();
        for (int w = 0; w < posts - 1; w++) {
            if (note(w, frost) == wanted && hears(p, w, s)) {
                wires.add(w);
            }
        }
        return bits(wires);
    }

    private int pairsByDeer() {
        int pairs = 0;
        for (int p = 0; p < posts; p++) {
            for (int w = 0; w < posts - 1; w++) {
                pairs += hears(p, w, 1) ? 1 : 0;
            }
        }
        return pairs;
    }

    private long callDoubled() {
        int most = pairsByDeer();
        int best = -1;
        for (int w = 0; w < posts - 1; w++) {
            PlainHarp other = copyOfBorder();
            other.kind[w] = 1;
            if (other.pairsByDeer() > most) {
                most = other.pairsByDeer();
                best = w;
            }
        }
        return best;
    }

    /** Of 10000 minutes: those with a man, of those with a man or wind. */
    private long callDoubt(int p, int q) {
        if (!is(p, 0, 100) || !is(q, 0, 100)) {
            return refuse(0, -2);
        }
        int sounding = 10000 - (100 - p) * (100 - q);
        if (sounding == 0) {
            fraction(0, 1);
        } else {
            fraction(p * 100L, sounding);
        }
        return 1;
    }

    private long callImage(int i) {
        if (!is(i, 0, 1)) {
            return refuse(0, -2);
        }
        images[i] = copyOfBorder();
        return 1;
    }

    private long callFrom(int i) {
        if (!is(i, 0, 1)) {
            return refuse(0, -2);
        }
        if (images[i] == null) {
            return refuse(1, -3);
        }
        takeBorder(images[i]);
        return 1;
    }

    private long callCount(int what) {
        int[] counts = {posts, guards.size(), winds.size(), passes.size(), text.length(), frost};
        return is(what, 0, 5) ? counts[what] : refuse(0, -2);
    }

    private long callDigest() {
        List<Long> values = new ArrayList<>();
        for (int what = 0; what < 6; what++) {
            values.add(callCount(what));
        }
        values.add((long) bits(guards));
        for (int w = 0; w < posts - 1; w++) {
            values.add((long) kind[w]);
            values.add((long) tune[w]);
        }
        for (List<int[]> rows : List.of(winds, passes)) {
            for (int[] row : rows) {
                for (int v : row) {
                    values.add((long) v);
                }
            }
        }
        values.add(above.longValueExact());
        values.add(below.longValueExact());
        long h = 787;
        for (long v : values) {
            h = 31 * h + v;
        }
        return h;
    }
}
