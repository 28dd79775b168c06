/** A border strung with wires that sound when someone passes. */
public final class BorderHarp {
    public static final int NONE = -1, BAD = -2, NO = -3, FULL = -4;

    private static final int NOT_SO_MANY = -5;
    private static final int FAR_BAD = -10;

    private static final int LEAST_POSTS = 2;
    private static final int MOST_POSTS = 9;
    private static final int FIRST_POSTS = 6;
    private static final int MOST_WIRES = MOST_POSTS - 1;
    private static final int NOTES = 12;
    private static final int ALL_NOTES = (1 << NOTES) - 1;
    private static final int MOST_FROST = 5;
    private static final int MINUTES = 60;
    private static final int MOST_WINDS = 6;
    private static final int MOST_PASSES = 8;
    private static final int MOST_TEXT = 200;
    private static final int IMAGES = 2;
    private static final int MOST_COVER = 3;

    private static final int DOUBLED = 1;
    private static final int SLACK = 2;
    private static final int SILK = 3;
    private static final int CUT = 4;
    private static final int KINDS = 5;

    private static final int DEER = 0;
    private static final int CART = 3;
    private static final int STEPS = 4;
    private static final int[] STRENGTHS = {1, 2, 3, 3};
    private static final int WEAK = 1;
    private static final int MAN_STRENGTH = 2;
    private static final int MOST_STRENGTH = 3;

    private final Border border;
    private final Border draft;
    private final Border[] images;
    private final boolean[] kept;
    private final BorderText text;
    private final Watch watch;
    private final Tuner tuner;
    private final Fraction fraction;
    private int badCalls;
    private int noCalls;
    private int fullCalls;

    public BorderHarp() {
        border = new Border();
        draft = new Border();
        images = new Border[] {new Border(), new Border()};
        kept = new boolean[IMAGES];
        text = new BorderText();
        watch = new Watch();
        tuner = new Tuner();
        fraction = new Fraction();
    }

    public int posts(int n) {
        if (!within(n, LEAST_POSTS, MOST_POSTS)) {
            return bad(BAD);
        }
        int was = border.postCount;
        border.startOver(n);
        return was;
    }

    public int wire(int w, int kind, int tune) {
        if (!border.isWire(w) || !inRow(kind, KINDS) || !inRow(tune, NOTES)) {
            return bad(BAD);
        }
        int was = NOTES * border.kinds[w] + border.tunes[w];
        border.stringWire(w, kind, tune);
        return was;
    }

    public int frost(int n) {
        if (!within(n, 0, MOST_FROST)) {
            return bad(BAD);
        }
        int was = border.frost;
        border.frost = n;
        return was;
    }

    public int guard(int post, boolean is) {
        if (!border.isPost(post)) {
            return bad(BAD);
        }
        if (border.hasGuard(post) == is) {
            return no();
        }
        border.guards ^= 1 << post;
        return 1;
    }

    public int wind(int minute, int w) {
        if (!inRow(minute, MINUTES) || !border.isWire(w)) {
            return bad(BAD);
        }
        if (border.windCount >= MOST_WINDS) {
            return full();
        }
        border.addWind(minute, w);
        return border.windCount - 1;
    }

    public int calm() {
        int were = border.windCount;
        border.windCount = 0;
        return were;
    }

    public int pass(int minute, int w, int step) {
        if (!inRow(minute, MINUTES) || !border.isWire(w) || !inRow(step, STEPS)) {
            return bad(BAD);
        }
        if (border.passCount >= MOST_PASSES) {
            return full();
        }
        border.addPass(minute, w, step);
        return border.passCount - 1;
    }

    public int undo() {
        if (border.passCount <= 0) {
            return no();
        }
        border.passCount--;
        return border.passCount;
    }

    public int type(long v, int n) {
        if (!within(n, 1, 8)) {
            return bad(BAD);
        }
        if (text.length + n > MOST_TEXT) {
            return full();
        }
        text.append(v, n);
        return text.length;
    }

    public int clear() {
        int had = text.length;
        text.length = 0;
        return had;
    }

    public int read() {
        int items = text.readInto(draft);
        if (items >= 0) {
            border.takeFrom(draft);
        }
        return items;
    }

    public int sounds(int w, int s, int what) {
        if (!border.isWire(w) || !within(s, 1, MOST_STRENGTH) || !inRow(what, 2)) {
            return bad(BAD);
        }
        return what == 0 ? border.loudnessOf(w, s) : border.noteOf(w);
    }

    public int away(int post, int w) {
        if (!border.isPost(post) || !border.isWire(w)) {
            return bad(BAD);
        }
        return post <= w ? w - post : post - w - 1;
    }

    public int heard(int post, int minute) {
        if (!border.isPost(post) || !inRow(minute, MINUTES)) {
            return bad(BAD);
        }
        return border.notesAt(post, minute);
    }

    public int alarm(int minute) {
        if (!inRow(minute, MINUTES)) {
            return bad(BAD);
        }
        int alarmed = 0;
        for (int post = 0; post < border.postCount; post++) {
            if (border.hasGuard(post) && border.notesAt(post, minute) != 0) {
                alarmed++;
            }
        }
        return alarmed;
    }

    public int which(int a, int heardA, int b, int heardB, int i) {
        if (!border.isPost(a) || !border.isPost(b) || a == b || i < NONE
                || !within(heardA, 0, ALL_NOTES) || !within(heardB, 0, ALL_NOTES)) {
            return bad(FAR_BAD);
        }
        int found = 0;
        for (int w = 0; w < border.wireCount(); w++) {
            for (int step = 0; step < STEPS; step++) {
                if (border.stepNotes(a, w, step) == heardA && border.stepNotes(b, w, step) == heardB) {
                    if (found == i) {
                        return 10 * w + step;
                    }
                    found++;
                }
            }
        }
        return i == NONE ? found : NOT_SO_MANY;
    }

    public int cover(int k) {
        if (!within(k, 1, MOST_COVER)) {
            return bad(BAD);
        }
        return watch.fewestGuards(border, k);
    }

    public int clashes() {
        int pairs = 0;
        for (int w = 0; w < border.wireCount(); w++) {
            for (int v = 0; v < w; v++) {
                if (border.meet(v, w) && border.noteOf(v) == border.noteOf(w)) {
                    pairs++;
                }
            }
        }
        return pairs;
    }

    public int retune() {
        return tuner.fewestWires(border);
    }

    public int slip(int what) {
        if (!inRow(what, 2)) {
            return bad(FAR_BAD);
        }
        watch.findSlip(border);
        return what == 0 ? watch.slipGuards : watch.slipPlace;
    }

    public int lot(int k, int w, int step) {
        if (!within(k, 1, border.postCount) || !border.isWire(w) || !inRow(step, STEPS)) {
            return bad(BAD);
        }
        fraction.become(deafLots(k, w, step), choose(border.postCount, k));
        return 1;
    }

    public int surest(int k, int step) {
        if (!within(k, 1, border.postCount) || !inRow(step, STEPS)) {
            return bad(BAD);
        }
        int best = NONE;
        int bestLots = -1;
        for (int w = 0; w < border.wireCount(); w++) {
            int lots = border.isCut(w) ? -1 : deafLots(k, w, step);
            if (lots > bestLots) {
                best = w;
                bestLots = lots;
            }
        }
        if (best != NONE) {
            fraction.become(bestLots, choose(border.postCount, k));
        }
        return best;
    }

    public int whence(int post, int note, int s) {
        if (!border.isPost(post) || !inRow(note, NOTES) || !within(s, 1, MOST_STRENGTH)) {
            return bad(BAD);
        }
        int wires = 0;
        for (int w = 0; w < border.wireCount(); w++) {
            if (border.noteOf(w) == note && has(border.reach(w, s), post)) {
                wires |= 1 << w;
            }
        }
        return wires;
    }

    public int doubled() {
        int best = NONE;
        int bestGain = 0;
        for (int w = 0; w < border.wireCount(); w++) {
            int now = Integer.bitCount(border.reach(w, STRENGTHS[DEER]));
            int then = Integer.bitCount(border.span(w, loudBy(DOUBLED, STRENGTHS[DEER])));
            if (then - now > bestGain) {
                best = w;
                bestGain = then - now;
            }
        }
        return best;
    }

    public int doubt(int p, int q) {
        if (!within(p, 0, 100) || !within(q, 0, 100)) {
            return bad(BAD);
        }
        int sounded = 100 * p + 100 * q - p * q;
        fraction.become(100 * p, Math.max(1, sounded));
        return 1;
    }

    public long part(int what) {
        if (!inRow(what, 2)) {
            return bad(BAD);
        }
        return what == 0 ? fraction.above : fraction.below;
    }

    public int image(int i) {
        if (!inRow(i, IMAGES)) {
            return bad(BAD);
        }
        images[i].takeFrom(border);
        kept[i] = true;
        return 1;
    }

    public int from(int i) {
        if (!inRow(i, IMAGES)) {
            return bad(BAD);
        }
        if (!kept[i]) {
            return no();
        }
        border.takeFrom(images[i]);
        return 1;
    }

    public int status(int what) {
        switch (what) {
            case 0:
                return badCalls;
            case 1:
                return noCalls;
            case 2:
                return fullCalls;
            default:
                return bad(-1);
        }
    }

    public int count(int what) {
        switch (what) {
            case 0:
                return border.postCount;
            case 1:
                return Integer.bitCount(border.guards);
            case 2:
                return border.windCount;
            case 3:
                return border.passCount;
            case 4:
                return text.length;
            case 5:
                return border.frost;
            default:
                return bad(BAD);
        }
    }

    public long digest() {
        long h = 787;
        for (int what = 0; what <= 5; what++) {
            h = 31 * h + count(what);
        }
        h = border.digestOn(h);
        h = 31 * h + fraction.above;
        return 31 * h + fraction.below;
    }

    private int bad(int answer) {
        badCalls++;
        return answer;
    }

    private int no() {
        noCalls++;
        return NO;
    }

    private int full() {
        fullCalls++;
        return FULL;
    }

    /** Of all lots of k posts, those with no post where the step's own wire is heard. */
    private int deafLots(int k, int w, int step) {
        int hearing = Integer.bitCount(border.reach(w, STRENGTHS[step]));
        return choose(border.postCount - hearing, k);
    }

    private static int choose(int all, int k) {
        if (k > all) {
            return 0;
        }
        int ways = 1;
        for (int i = 1; i <= k; i++) {
            ways = ways * (all - k + i) / i;
        }
        return ways;
    }

    private static boolean within(int value, int least, int most) {
        return value >= least && value <= most;
    }

    /** Whether this is one of so many that are numbered from 0. */
    private static boolean inRow(int value, int many) {
        return value >= 0 && value < many;
    }

    private static boolean has(int bits, int place) {
        return (bits >> place & 1) != 0;
    }

    private static int loudBy(int kind, int strength) {
        switch (kind) {
            case DOUBLED:
                return strength + 2;
            case SLACK:
            case SILK:
                return strength - 1;
            case CUT:
                return 0;
            default:
                return strength;
        }
    }

    private static int noteBy(int kind, int tune, int frost) {
        switch (kind) {
            case SLACK:
                return (tune + frost + NOTES - 1) % NOTES;
            case SILK:
                return (tune + NOTES - 1) % NOTES;
            default:
                return (tune + frost) % NOTES;
        }
    }

    /** All that an image keeps and that a text tells. */
    private static final class Border {
        int postCount = FIRST_POSTS;
        int frost;
        int guards;
        int windCount;
        int passCount;
        final int[] kinds = new int[MOST_WIRES];
        final int[] tunes = new int[MOST_WIRES];
        final int[] windMinutes = new int[MOST_WINDS];
        final int[] windWires = new int[MOST_WINDS];
        final int[] passMinutes = new int[MOST_PASSES];
        final int[] passWires = new int[MOST_PASSES];
        final int[] passSteps = new int[MOST_PASSES];

        void startOver(int posts) {
            postCount = posts;
            frost = 0;
            guards = 0;
            windCount = 0;
            passCount = 0;
            for (int w = 0; w < MOST_WIRES; w++) {
                stringWire(w, 0, 0);
            }
        }

        void takeFrom(Border other) {
            postCount = other.postCount;
            frost = other.frost;
            guards = other.guards;
            windCount = other.windCount;
            passCount = other.passCount;
            System.arraycopy(other.kinds, 0, kinds, 0, MOST_WIRES);
            System.arraycopy(other.tunes, 0, tunes, 0, MOST_WIRES);
            System.arraycopy(other.windMinutes, 0, windMinutes, 0, MOST_WINDS);
            System.arraycopy(other.windWires, 0, windWires, 0, MOST_WINDS);
            System.arraycopy(other.passMinutes, 0, passMinutes, 0, MOST_PASSES);
            System.arraycopy(other.passWires, 0, passWires, 0, MOST_PASSES);
            System.arraycopy(other.passSteps, 0, passSteps, 0, MOST_PASSES);
        }

        void stringWire(int w, int kind, int tune) {
            kinds[w] = kind;
            tunes[w] = tune;
        }

        void addWind(int minute, int w) {
            if (windCount < MOST_WINDS) {
                windMinutes[windCount] = minute;
                windWires[windCount] = w;
                windCount++;
            }
        }

        void addPass(int minute, int w, int step) {
            if (passCount < MOST_PASSES) {
                passMinutes[passCount] = minute;
                passWires[passCount] = w;
                passSteps[passCount] = step;
                passCount++;
            }
        }

        int wireCount() {
            return postCount - 1;
        }

        boolean isPost(int post) {
            return inRow(post, postCount);
        }

        boolean isWire(int w) {
            return inRow(w, wireCount());
        }

        boolean hasGuard(int post) {
            return has(guards, post);
        }

        boolean isCut(int w) {
            return kinds[w] == CUT;
        }

        int loudnessOf(int w, int strength) {
            return loudBy(kinds[w], strength);
        }

        int noteOf(int w) {
            return noteBy(kinds[w], tunes[w], frost);
        }

        /** The posts (bits) at which the wire is heard if it is so loud. */
        int span(int w, int loud) {
            int first = Math.max(0, w - loud + 1);
            int last = Math.min(postCount - 1, w + loud);
            return (1 << (last + 1)) - (1 << first);
        }

        /** The posts (bits) at which the wire is heard if plucked with this strength. */
        int reach(int w, int strength) {
            return span(w, loudnessOf(w, strength));
        }

        /** Whether some post hears both wires as a man plucks them; a cut wire is heard nowhere. */
        boolean meet(int v, int w) {
            return (reach(v, MAN_STRENGTH) & reach(w, MAN_STRENGTH)) != 0;
        }

        private int pluckNotes(int post, int w, int strength) {
            return has(reach(w, strength), post) ? 1 << noteOf(w) : 0;
        }

        int stepNotes(int post, int w, int step) {
            int notes = pluckNotes(post, w, STRENGTHS[step]);
            if (step == CART && isWire(w + 1)) {
                notes |= pluckNotes(post, w + 1, WEAK);
            }
            return notes;
        }

        int notesAt(int post, int minute) {
            int notes = 0;
            for (int i = 0; i < passCount; i++) {
                if (passMinutes[i] == minute) {
                    notes |= stepNotes(post, passWires[i], passSteps[i]);
                }
            }
            for (int i = 0; i < windCount; i++) {
                if (windMinutes[i] == minute) {
                    notes |= pluckNotes(post, windWires[i], WEAK);
                }
            }
            return notes;
        }

        boolean isWindy(int minute) {
            for (int i = 0; i < windCount; i++) {
                if (windMinutes[i] == minute) {
                    return true;
                }
            }
            return false;
        }

        boolean isBlown(int minute, int w) {
            for (int i = 0; i < windCount; i++) {
                if (windMinutes[i] == minute && windWires[i] == w) {
                    return true;
                }
            }
            return false;
        }

        long digestOn(long start) {
            long h = 31 * start + guards;
            for (int w = 0; w < wireCount(); w++) {
                h = 31 * (31 * h + kinds[w]) + tunes[w];
            }
            for (int i = 0; i < windCount; i++) {
                h = 31 * (31 * h + windMinutes[i]) + windWires[i];
            }
            for (int i = 0; i < passCount; i++) {
                h = 31 * (31 * h + passMinutes[i]) + passWires[i];
                h = 31 * h + passSteps[i];
            }
            return h;
        }
    }

    /** Who is seen and who is not: the fewest guards, the best slip. */
    private static final class Watch {
        int slipGuards;
        int slipPlace;
        private final int[] reaches = new int[MOST_WIRES];
        private int strung;

        int fewestGuards(Border border, int k) {
            learnReaches(border);
            int all = (1 << border.postCount) - 1;
            if (!covers(all, k)) {
                return NONE;
            }
            int best = all;
            int fewest = border.postCount;
            for (int posts = 0; posts < all; posts++) {
                int size = Integer.bitCount(posts);
                if (size < fewest && covers(posts, k)) {
                    fewest = size;
                    best = posts;
                }
            }
            return best;
        }

        private void learnReaches(Border border) {
            strung = 0;
            for (int w = 0; w < border.wireCount(); w++) {
                if (!border.isCut(w)) {
                    reaches[strung] = border.reach(w, STRENGTHS[DEER]);
                    strung++;
                }
            }
        }

        private boolean covers(int posts, int k) {
            for (int i = 0; i < strung; i++) {
                if (Integer.bitCount(reaches[i] & posts) < k) {
                    return false;
                }
            }
            return true;
        }

        /** All minutes without wind are alike, so only the first of them is looked at. */
        void findSlip(Border border) {
            slipGuards = NONE;
            slipPlace = NONE;
            boolean quietSeen = false;
            for (int minute = 0; minute < MINUTES; minute++) {
                boolean windy = border.isWindy(minute);
                if (windy || !quietSeen) {
                    lookAtMinute(border, minute);
                }
                quietSeen |= !windy;
            }
        }

        private void lookAtMinute(Border border, int minute) {
            for (int w = 0; w < border.wireCount(); w++) {
                if (!border.isCut(w)) {
                    int guards = noticers(border, minute, w);
                    if (slipGuards == NONE || guards < slipGuards) {
                        slipGuards = guards;
                        slipPlace = 100 * minute + w;
                    }
                }
            }
        }

        private static int noticers(Border border, int minute, int w) {
            int posts = border.guards & border.reach(w, MAN_STRENGTH);
            if (border.isBlown(minute, w)) {
                posts &= ~border.reach(w, WEAK);
            }
            return Integer.bitCount(posts);
        }
    }

    /** Finds the fewest wires to tune anew so that no two clash by any frost. */
    private static final class Tuner {
        private static final int FROSTS = (1 << (MOST_FROST + 1)) - 1;

        private final int[] notes = new int[MOST_WIRES];
        private final boolean[] silken = new boolean[MOST_WIRES];
        private final int[] meeting = new int[MOST_WIRES];
        private final int[][] choices = new int[MOST_WIRES + 1][MOST_WIRES];
        private int strung;

        int fewestWires(Border border) {
            learn(border);
            if (!canTune(strung)) {
                return NONE;
            }
            int all = 1 << border.wireCount();
            for (int size = 0; size < MOST_WIRES; size++) {
                for (int free = 0; free < all; free++) {
                    if (Integer.bitCount(free) == size && (free & ~strung) == 0 && canTune(free)) {
                        return free;
                    }
                }
            }
            return strung;
        }

        private void learn(Border border) {
            strung = 0;
            for (int w = 0; w < border.wireCount(); w++) {
                if (!border.isCut(w)) {
                    strung |= 1 << w;
                }
                notes[w] = noteBy(border.kinds[w], border.tunes[w], 0);
                silken[w] = border.kinds[w] == SILK;
                meeting[w] = 0;
                for (int v = 0; v < border.wireCount(); v++) {
                    if (v != w && border.meet(v, w)) {
                        meeting[w] |= 1 << v;
                    }
                }
            }
        }

        /** Whether none clashes by some tunes of the free wires, while the others keep theirs. */
        private boolean canTune(int free) {
            for (int w = 0; w < MOST_WIRES; w++) {
                choices[0][w] = has(free, w) ? ALL_NOTES : 1 << notes[w];
            }
            return tuneRest(strung, 0);
        }

        private boolean tuneRest(int open, int depth) {
            if (open == 0) {
                return true;
            }
            if (depth >= MOST_WIRES) {
                return false;
            }
            int w = mostBound(open, depth);
            int rest = open & ~(1 << w);
            int left = choices[depth][w];
            // If even the most bound wire may have every note, then nothing tells one note
            // from another, and trying one of them is enough.
            int tried = left == ALL_NOTES ? 1 : left;
            for (int note = 0; note < NOTES; note++) {
                if (has(tried, note) && narrows(w, note, rest, depth) && tuneRest(rest, depth + 1)) {
                    return true;
                }
            }
            return false;
        }

        private int mostBound(int open, int depth) {
            int best = 0;
            int fewest = NOTES + 1;
            for (int w = 0; w < MOST_WIRES; w++) {
                int left = Integer.bitCount(choices[depth][w]);
                if (has(open, w) && left < fewest) {
                    best = w;
                    fewest = left;
                }
            }
            return best;
        }

        /** Tells the rest what the note of w leaves them; false if one of them is left none. */
        private boolean narrows(int w, int note, int rest, int depth) {
            for (int v = 0; v < MOST_WIRES; v++) {
                if (has(rest, v)) {
                    int taken = has(meeting[w], v) ? takenNotes(w, note, v) : 0;
                    choices[depth + 1][v] = choices[depth][v] & ~taken;
                    if (choices[depth + 1][v] == 0) {
                        return false;
                    }
                }
            }
            return true;
        }

        /** The notes (without frost) that v can't have beside w: frost moves all wires but silk. */
        private int takenNotes(int w, int note, int v) {
            if (silken[w] == silken[v]) {
                return 1 << note;
            }
            int lowest = silken[w] ? note + NOTES - MOST_FROST : note;
            int spread = FROSTS << (lowest % NOTES);
            return (spread | spread >> NOTES) & ALL_NOTES;
        }
    }

    /** The text, and how a border is read from it token by token. */
    private static final class BorderText {
        private static final int FIRST_FAULT = -10;
        private static final int END = 0;
        private static final int WORD = 1;
        private static final int NUMBER = 2;
        private static final int STOP = 3;
        private static final int STRANGE = 4;

        int length;
        private final byte[] bytes = new byte[MOST_TEXT];
        private int token;
        private int start;
        private int end;

        void append(long v, int n) {
            for (int i = n - 1; i >= 0 && length < MOST_TEXT; i--) {
                bytes[length] = (byte) (v >> 8 * i);
                length++;
            }
        }

        /** How many items were read, or -10 less the fault. */
        int readInto(Border draft) {
            end = 0;
            scan();
            boolean sound = readPosts(draft);
            int items = 1;
            while (sound && items <= length) {
                scan();
                if (token == END) {
                    return items;
                }
                sound = readItem(draft);
                items++;
            }
            return FIRST_FAULT - start;
        }

        private boolean readPosts(Border draft) {
            if (!isWord("posts")) {
                return false;
            }
            int posts = nextNumber(LEAST_POSTS, MOST_POSTS);
            if (posts < 0) {
                return false;
            }
            draft.startOver(posts);
            return nextStop();
        }

        private boolean readItem(Border draft) {
            if (isWord("wire")) {
                return readWire(draft);
            }
            if (isWord("frost")) {
                return readFrost(draft);
            }
            if (isWord("guard")) {
                return readGuard(draft);
            }
            if (isWord("wind")) {
                return readWind(draft);
            }
            return isWord("pass") && readPass(draft);
        }

        private boolean readWire(Border draft) {
            int w = nextNumber(0, draft.wireCount() - 1);
            int kind = w < 0 ? NONE : nextNumber(0, KINDS - 1);
            int tune = kind < 0 ? NONE : nextNumber(0, NOTES - 1);
            if (tune < 0) {
                return false;
            }
            draft.stringWire(w, kind, tune);
            return nextStop();
        }

        private boolean readFrost(Border draft) {
            int frost = nextNumber(0, MOST_FROST);
            if (frost < 0) {
                return false;
            }
            draft.frost = frost;
            return nextStop();
        }

        private boolean readGuard(Border draft) {
            int post = nextNumber(0, draft.postCount - 1);
            if (post < 0 || draft.hasGuard(post)) {
                return false;
            }
            draft.guards |= 1 << post;
            return nextStop();
        }

        private boolean readWind(Border draft) {
            if (draft.windCount >= MOST_WINDS) {
                return false;
            }
            int minute = nextNumber(0, MINUTES - 1);
            int w = minute < 0 ? NONE : nextNumber(0, draft.wireCount() - 1);
            if (w < 0) {
                return false;
            }
            draft.addWind(minute, w);
            return nextStop();
        }

        private boolean readPass(Border draft) {
            if (draft.passCount >= MOST_PASSES) {
                return false;
            }
            int minute = nextNumber(0, MINUTES - 1);
            int w = minute < 0 ? NONE : nextNumber(0, draft.wireCount() - 1);
            int step = w < 0 ? NONE : nextNumber(0, STEPS - 1);
            if (step < 0) {
                return false;
            }
            draft.addPass(minute, w, step);
            return nextStop();
        }

        private boolean nextStop() {
            scan();
            return token == STOP;
        }

        /** The number that comes next, or NONE if none comes or it is not within these. */
        private int nextNumber(int least, int most) {
            scan();
            if (token != NUMBER) {
                return NONE;
            }
            int number = 0;
            for (int i = start; i < end; i++) {
                number = 10 * number + bytes[i] - '0';
            }
            return within(number, least, most) ? number : NONE;
        }

        private boolean isWord(String word) {
            if (token != WORD || end - start != word.length()) {
                return false;
            }
            for (int i = 0; i < word.length(); i++) {
                if (bytes[start + i] != word.charAt(i)) {
                    return false;
                }
            }
            return true;
        }

        /** Takes the next token; at the end, start is the text's length, where a fault is then. */
        private void scan() {
            start = end;
            while (start < length && bytes[start] == ' ') {
                start++;
            }
            token = start < length ? tokenOf(bytes[start]) : END;
            end = Math.min(length, start + 1);
            if (token == WORD || token == NUMBER) {
                while (end < length && tokenOf(bytes[end]) == token) {
                    end++;
                }
            }
            // A number with a third figure can stand nowhere; its fault is at its first one.
            if (token == NUMBER && end - start > 2) {
                token = STRANGE;
            }
        }

        private static int tokenOf(byte sign) {
            if (sign >= 'a' && sign <= 'z') {
                return WORD;
            }
            if (sign >= '0' && sign <= '9') {
                return NUMBER;
            }
            return sign == ';' ? STOP : STRANGE;
        }
    }

    /** Above by below, in lowest terms. */
    private static final class Fraction {
        private static final int MOST_TURNS = 64;

        long above = 0;
        long below = 1;

        void become(long newAbove, long newBelow) {
            long divisor = commonDivisor(newAbove, newBelow);
            if (divisor > 0) {
                above = newAbove / divisor;
                below = newBelow / divisor;
            }
        }

        private static long commonDivisor(long a, long b) {
            for (int turn = 0; turn < MOST_TURNS && b != 0; turn++) {
                long left = a % b;
                a = b;
                b = left;
            }
            return a;
        }
    }
}
