import java.util.Arrays;
import java.util.Random;

/**
 * "RETUNE: the fewest WIRES (bits, least bits of like ones) of which TUNES may be told anew so that there are no
 * CLASHES by any FROST 0 .. 5; none.": borders drawn by fixed seeds, against a search that tries tune by tune.
 */
public final class RetuneTest {
    private static final int BORDERS = 6000;

    private final Random random;
    private final int posts;
    private final int wires;
    private final int[] kinds;
    private final int[] tunes;
    private final boolean[][] meet;
    private final int[] tried;

    private RetuneTest(int seed) {
        random = new Random(seed);
        posts = seed % 9 == 0 ? 9 : 2 + random.nextInt(7);
        wires = posts - 1;
        kinds = new int[wires];
        tunes = new int[wires];
        meet = new boolean[wires][wires];
        tried = new int[wires];
        draw(seed % 4);
        for (int v = 0; v < wires; v++) {
            for (int w = 0; w < wires; w++) {
                meet[v][w] = heardTogether(v, w);
            }
        }
    }

    public static void main(String[] args) {
        for (int seed = 0; seed < BORDERS; seed++) {
            new RetuneTest(seed).compare();
        }
        Due.end();
    }

    /** Of all kinds; of doubled ones and silk; silk apart from one another; doubled ones mostly: of few tunes or many. */
    private void draw(int mix) {
        int most = 1 + random.nextInt(12);
        int[][] mixes = {{0, 1, 2, 3, 4}, {1, 3}, {3, 3, 4}, {1, 1, 1, 0, 3}};
        for (int w = 0; w < wires; w++) {
            kinds[w] = mixes[mix][random.nextInt(mixes[mix].length)];
            tunes[w] = random.nextInt(most);
        }
        kinds[0] = mix == 2 ? 1 : kinds[0];
    }

    private void compare() {
        BorderHarp x = new BorderHarp();
        x.posts(posts);
        for (int w = 0; w < wires; w++) {
            x.wire(w, kinds[w], tunes[w]);
        }
        x.frost(random.nextInt(6));
        Due.due("retune() of kinds " + Arrays.toString(kinds) + " tunes " + Arrays.toString(tunes), x.retune(), fewest());
    }

    private int fewest() {
        int all = (1 << wires) - 1;
        if (!fits(all, 0)) {
            return BorderHarp.NONE;
        }
        for (int size = 0; size <= wires; size++) {
            for (int set = 0; set <= all; set++) {
                if (Integer.bitCount(set) == size && fits(set, 0)) {
                    return set;
                }
            }
        }
        return BorderHarp.NONE;
    }

    /** Whether the wires from w on can have tunes, those of the set any ones, beside those before w. */
    private boolean fits(int set, int w) {
        if (w == wires) {
            return true;
        }
        boolean free = (set >> w & 1) == 1;
        // Where all are free, all tunes may be told by as much more: those of the first one are alike.
        int last = !free ? tunes[w] : w == 0 && set == (1 << wires) - 1 ? 0 : 11;
        for (int tune = free ? 0 : tunes[w]; tune <= last; tune++) {
            tried[w] = tune;
            if (fitsBefore(w) && fits(set, w + 1)) {
                return true;
            }
        }
        return false;
    }

    private boolean fitsBefore(int w) {
        for (int v = 0; v < w; v++) {
            for (int frost = 0; frost < 6 && meet[v][w]; frost++) {
                if (note(v, frost) == note(w, frost)) {
                    return false;
                }
            }
        }
        return true;
    }

    private int note(int w, int frost) {
        int sharp = tried[w] + (kinds[w] == 3 ? 0 : frost);
        return (sharp + (kinds[w] == 2 || kinds[w] == 3 ? 11 : 0)) % 12;
    }

    private boolean heardTogether(int v, int w) {
        for (int post = 0; post < posts; post++) {
            if (heard(post, v) && heard(post, w)) {
                return true;
            }
        }
        return false;
    }

    /** By a man, of strength 2. */
    private boolean heard(int post, int w) {
        int[] loud = {2, 4, 1, 1, 0};
        int away = post <= w ? w - post : post - (w + 1);
        return loud[kinds[w]] > away;
    }
}
