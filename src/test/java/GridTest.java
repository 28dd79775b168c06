import java.util.ArrayList;
import java.util.List;

/**
 * "BAD: a number is not as told", "No call may ever throw .. for any arguments in any state" (LANGUAGE.md, rule 7):
 * each call with all of these numbers, in every mix, answers as the plain telling of the document does, on borders of
 * few and of many posts.
 */
public final class GridTest {
    // What an object answers after 512 calls is free; those that make a border are among them.
    private static final int MOST_CALLS = 400;
    private static final long[] NUMBERS = {
        Integer.MIN_VALUE, -10, -2, -1, 0, 1, 2, 3, 4, 5, 6, 7, 8, 9, 10, 11, 12, 30, 59, 60, 100, 101, 255, 4095, 4096,
        Integer.MAX_VALUE
    };
    private static final long[] FEW = {Integer.MIN_VALUE, -1, 0, 1, 2, 4, 8, 2048, 4095, 4096, Integer.MAX_VALUE};
    private static final String[] OF_ONE = {
        "posts", "frost", "alarm", "cover", "slip", "part", "image", "from", "status", "count"
    };
    private static final String[] OF_TWO = {"guard", "wind", "type", "away", "heard", "surest", "doubt"};
    private static final String[] OF_THREE = {"wire", "pass", "sounds", "lot", "whence"};

    private final int posts;
    private BorderHarp harp;
    private PlainHarp plain;
    private int called;

    private GridTest(int posts) {
        this.posts = posts;
    }

    public static void main(String[] args) {
        for (int posts : new int[] {2, 3, 6, 9}) {
            GridTest test = new GridTest(posts);
            test.ofOne();
            test.ofTwo();
            test.ofThree();
            test.which();
        }
        Due.end();
    }

    private void ofOne() {
        for (String name : OF_ONE) {
            for (long x : NUMBERS) {
                begin();
                compare(name, x);
                atTheEnd();
            }
        }
    }

    private void ofTwo() {
        for (String name : OF_TWO) {
            begin();
            for (long x : NUMBERS) {
                for (long y : NUMBERS) {
                    compare(name, x, y);
                }
            }
        }
    }

    private void ofThree() {
        for (String name : OF_THREE) {
            begin();
            for (long x : NUMBERS) {
                for (long y : NUMBERS) {
                    for (long z : NUMBERS) {
                        compare(name, x, y, z);
                    }
                }
            }
        }
    }

    private void which() {
        begin();
        for (long a : new long[] {-1, 0, 1, posts - 1, posts}) {
            for (long b : new long[] {-1, 0, 1, posts - 1, posts}) {
                for (long heardA : FEW) {
                    for (long heardB : FEW) {
                        for (long i : new long[] {Integer.MIN_VALUE, -2, -1, 0, 3, 40, Integer.MAX_VALUE}) {
                            compare("which", a, heardA, b, heardB, i);
                        }
                    }
                }
            }
        }
    }

    private void compare(String name, long... a) {
        same(name, a);
        called++;
        if (called == MOST_CALLS) {
            atTheEnd();
            begin();
        }
    }

    private void atTheEnd() {
        same("digest");
        same("status", 0);
        same("status", 1);
        same("status", 2);
    }

    private void same(String name, long... a) {
        Due.due(posts + " posts: " + Calls.told(name, a), Calls.answer(harp, name, a), plain.call(name, a));
    }

    /** A border with every kind that fits, and an image of it. */
    private void begin() {
        harp = new BorderHarp();
        plain = new PlainHarp();
        called = 0;
        for (Step step : border()) {
            same(step.name, step.numbers);
        }
    }

    private record Step(String name, long... numbers) {
    }

    private List<Step> border() {
        List<Step> steps = new ArrayList<>();
        steps.add(new Step("posts", posts));
        for (int w = 0; w < posts - 1; w++) {
            steps.add(new Step("wire", w, (w + 1) % 5, 11 - w));
        }
        steps.add(new Step("frost", 2));
        steps.add(new Step("guard", 0, 1));
        steps.add(new Step("guard", posts - 1, 1));
        steps.add(new Step("wind", 59, 0));
        steps.add(new Step("wind", 0, posts - 2));
        steps.add(new Step("pass", 59, posts - 2, 3));
        steps.add(new Step("pass", 0, 0, 3));
        steps.add(new Step("image", 1));
        return steps;
    }
}
