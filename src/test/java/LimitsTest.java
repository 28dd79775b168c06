/**
 * "Terms": the limits of each number of each call, by as many posts as there can be: the last that is as told on
 * both sides is served, the first that is not is refused as BAD, and changes nothing but STATUS.
 */
public final class LimitsTest {
    private static final int[] KIND = {0, 4};
    private static final int[] TUNE = {0, 11};
    private static final int[] FROST = {0, 5};
    private static final int[] MINUTE = {0, 59};
    private static final int[] STEP = {0, 3};
    private static final int[] STRENGTH = {1, 3};
    private static final int[] ONE_OF_TWO = {0, 1};
    private static final int[] OF_A_HUNDRED = {0, 100};
    private static final int[] NOTES = {0, 4095};
    private static final int[] ANY = {0, 0};
    private static final long MOST_INT = Integer.MAX_VALUE;
    private static final long LEAST_INT = Integer.MIN_VALUE;

    private final int posts;

    private LimitsTest(int posts) {
        this.posts = posts;
    }

    public static void main(String[] args) {
        for (int n = 2; n <= 9; n++) {
            LimitsTest test = new LimitsTest(n);
            test.border();
            test.sounds();
            test.who();
            test.which();
            test.there();
            test.fullOnes();
        }
        Due.end();
    }

    /** "POSTS 0 to n less 1". */
    private int[] post() {
        return new int[] {0, posts - 1};
    }

    /** "WIRE w is from POST w to the next one (0 to n less 2)". */
    private int[] wire() {
        return new int[] {0, posts - 2};
    }

    /** "LOT k (1 to n)". */
    private int[] lot() {
        return new int[] {1, posts};
    }

    private void border() {
        limits("posts", -2, new int[] {2, 9});
        limits("wire", -2, wire(), KIND, TUNE);
        limits("frost", -2, FROST);
        limits("guard", -2, post(), ANY);
        limits("wind", -2, MINUTE, wire());
        limits("pass", -2, MINUTE, wire(), STEP);
        limits("type", -2, ANY, new int[] {1, 8});
    }

    private void sounds() {
        limits("sounds", -2, wire(), STRENGTH, ONE_OF_TWO);
        limits("away", -2, post(), wire());
        limits("heard", -2, post(), MINUTE);
        limits("alarm", -2, MINUTE);
    }

    private void who() {
        limits("cover", -2, new int[] {1, 3});
        limits("slip", -10, ONE_OF_TWO);
        limits("lot", -2, lot(), wire(), STEP);
        limits("surest", -2, lot(), STEP);
        limits("whence", -2, post(), TUNE, STRENGTH);
        limits("doubt", -2, OF_A_HUNDRED, OF_A_HUNDRED);
    }

    private void there() {
        limits("part", -2, ONE_OF_TWO);
        limits("image", -2, ONE_OF_TWO);
        limits("from", -2, ONE_OF_TWO);
        limits("status", -1, new int[] {0, 2});
        limits("count", -2, new int[] {0, 5});
    }

    /** Each number at its limits, while the others are the least ones, then while they are the most. */
    private void limits(String name, long refusal, int[]... ranges) {
        for (int side = 0; side < 2; side++) {
            long[] a = new long[ranges.length];
            for (int i = 0; i < a.length; i++) {
                a[i] = ranges[i][side];
            }
            for (int i = 0; i < a.length; i++) {
                if (ranges[i] != ANY) {
                    limitsOf(name, refusal, a, i, ranges[i]);
                }
            }
        }
        allWrong(name, refusal, ranges);
    }

    private void limitsOf(String name, long refusal, long[] a, int i, int[] range) {
        for (long right : new long[] {range[0], range[1]}) {
            served(name, refusal, with(a, i, right));
        }
        for (long wrong : new long[] {range[0] - 1, range[1] + 1, LEAST_INT, MOST_INT}) {
            Whole.refused(() -> Made.rich(posts), Whole.BAD, refusal, name, with(a, i, wrong));
        }
    }

    /** Several wrong numbers are one refusal. */
    private void allWrong(String name, long refusal, int[]... ranges) {
        long[] a = new long[ranges.length];
        for (int i = 0; i < a.length; i++) {
            a[i] = ranges[i] == ANY ? 1 : ranges[i][1] + 1;
        }
        Whole.refused(() -> Made.rich(posts), Whole.BAD, refusal, name, a);
    }

    private static long[] with(long[] a, int i, long value) {
        long[] other = a.clone();
        other[i] = value;
        return other;
    }

    private void served(String name, long refusal, long... a) {
        BorderHarp x = Made.rich(posts);
        long[] before = {x.status(0), x.status(1), x.status(2)};
        long answer = Calls.answer(x, name, a);
        String call = posts + " posts: " + Calls.told(name, a);
        // NONE is an answer of some calls; status alone has it as a refusal.
        Due.due(call + " is served", answer >= -1 && answer != refusal ? 1 : answer, 1);
        for (int what = 0; what < 3; what++) {
            Due.due("status(" + what + ") after " + call, x.status(what), before[what]);
        }
    }

    /** "BAD: -10: a and b alike, too": a set of NOTES is of 12 bits, i is NONE or from 0 on. */
    private void which() {
        int last = posts - 1;
        long[][] right = {{0, 0, last, 0, -1}, {last, 0, 0, 0, -1}, {0, 4095, last, 0, -1}, {0, 0, last, 4095, -1},
            {last, 4095, 0, 4095, -1}};
        for (long[] a : right) {
            served("which", -10, a);
        }
        long[] a = {0, 0, last, 0, -1};
        for (int i = 0; i < 4; i++) {
            int most = i % 2 == 0 ? last : NOTES[1];
            for (long wrong : new long[] {-1, most + 1, LEAST_INT, MOST_INT}) {
                Whole.refused(() -> Made.rich(posts), Whole.BAD, -10, "which", with(a, i, wrong));
            }
        }
        for (long wrong : new long[] {-2, LEAST_INT}) {
            Whole.refused(() -> Made.rich(posts), Whole.BAD, -10, "which", with(a, 4, wrong));
        }
        for (int post = 0; post < posts; post++) {
            Whole.refused(() -> Made.rich(posts), Whole.BAD, -10, "which", post, 0, post, 0, -1);
        }
        Whole.refused(() -> Made.rich(posts), Whole.BAD, -10, "which", posts, 4096, posts, 4096, -2);
    }

    /** "Refused .. the first of: BAD ..; NO ..; FULL": a number that is not as told is BAD where it is FULL, too. */
    private void fullOnes() {
        long[][] winds = {{-1, 0}, {60, 0}, {0, -1}, {0, posts - 1}};
        for (long[] a : winds) {
            Whole.refused(() -> Made.full(posts), Whole.BAD, -2, "wind", a);
        }
        long[][] passes = {{-1, 0, 0}, {60, 0, 0}, {0, -1, 0}, {0, posts - 1, 0}, {0, 0, -1}, {0, 0, 4}};
        for (long[] a : passes) {
            Whole.refused(() -> Made.full(posts), Whole.BAD, -2, "pass", a);
        }
        for (long n : new long[] {0, 9, LEAST_INT, MOST_INT}) {
            Whole.refused(() -> Made.full(posts), Whole.BAD, -2, "type", 0, n);
        }
    }
}
