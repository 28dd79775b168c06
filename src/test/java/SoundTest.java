/** Promises 13 to 16: how loud a wire is, its note, what is heard where and when. */
public final class SoundTest {
    private SoundTest() {
    }

    public static void main(String[] args) {
        kinds();
        soundsRefused();
        away();
        heard();
        carts();
        alarm();
        Due.end();
    }

    private static void kinds() {
        BorderHarp x = new BorderHarp();
        int[][] loud = {{1, 2, 3}, {3, 4, 5}, {0, 1, 2}, {0, 1, 2}, {0, 0, 0}};
        int[][] noteOf0 = {{0, 0, 11, 11, 0}, {5, 5, 4, 11, 5}};
        int[][] noteOf11 = {{11, 11, 10, 10, 11}, {4, 4, 3, 10, 4}};
        for (int kind = 0; kind < 5; kind++) {
            for (int cold = 0; cold < 2; cold++) {
                x.frost(5 * cold);
                x.wire(2, kind, 0);
                x.wire(4, kind, 11);
                for (int s = 1; s <= 3; s++) {
                    Due.due("loud of kind " + kind + " by " + s, x.sounds(2, s, 0), loud[kind][s - 1]);
                    Due.due("note of kind " + kind + " tune 0", x.sounds(2, s, 1), noteOf0[cold][kind]);
                    Due.due("note of kind " + kind + " tune 11", x.sounds(4, s, 1), noteOf11[cold][kind]);
                }
            }
        }
    }

    private static void soundsRefused() {
        BorderHarp x = new BorderHarp();
        int[][] wrong = {{5, 1, 0}, {-1, 1, 0}, {0, 0, 0}, {0, 4, 0}, {0, 1, 2}, {0, 1, -1},
            {Integer.MAX_VALUE, 1, 0}, {0, Integer.MIN_VALUE, 0}, {0, 1, Integer.MAX_VALUE}};
        for (int[] r : wrong) {
            Due.bad(x, "sounds(" + r[0] + ", " + r[1] + ", " + r[2] + ")", () -> x.sounds(r[0], r[1], r[2]));
        }
    }

    private static void away() {
        BorderHarp x = new BorderHarp();
        int[][] due = {{0, 1, 2, 3, 4}, {0, 0, 1, 2, 3}, {1, 0, 0, 1, 2}, {2, 1, 0, 0, 1}, {3, 2, 1, 0, 0}, {4, 3, 2, 1, 0}};
        for (int post = 0; post < 6; post++) {
            for (int w = 0; w < 5; w++) {
                Due.due("away(" + post + ", " + w + ")", x.away(post, w), due[post][w]);
            }
        }
        int[][] wrong = {{6, 0}, {-1, 0}, {0, 5}, {0, -1}, {Integer.MIN_VALUE, 0}, {0, Integer.MAX_VALUE}};
        for (int[] r : wrong) {
            Due.bad(x, "away(" + r[0] + ", " + r[1] + ")", () -> x.away(r[0], r[1]));
        }
        x.posts(2);
        Due.due("away(1, 0) of two posts", x.away(1, 0), 0);
        Due.bad(x, "away(2, 0) of two posts", () -> x.away(2, 0));
        Due.bad(x, "away(0, 1) of two posts", () -> x.away(0, 1));
    }

    private static void heardAll(BorderHarp x, String what, int minute, int... due) {
        for (int post = 0; post < due.length; post++) {
            Due.due(what + ": heard(" + post + ", " + minute + ")", x.heard(post, minute), due[post]);
        }
    }

    private static void heard() {
        BorderHarp x = new BorderHarp();
        for (int w = 0; w < 5; w++) {
            x.wire(w, 0, w);
        }
        x.pass(7, 2, 0);
        heardAll(x, "a deer", 7, 0, 0, 4, 4, 0, 0);
        x.pass(8, 2, 1);
        heardAll(x, "a man", 8, 0, 4, 4, 4, 4, 0);
        x.pass(9, 2, 2);
        heardAll(x, "a pair", 9, 4, 4, 4, 4, 4, 4);
        x.wind(7, 4);
        heardAll(x, "a deer and wind", 7, 0, 0, 4, 4, 16, 16);
        x.wind(7, 2);
        heardAll(x, "wind adds nothing to a deer", 7, 0, 0, 4, 4, 16, 16);
        x.frost(1);
        heardAll(x, "frost", 7, 0, 0, 8, 8, 32, 32);
        heardAll(x, "another minute", 10, 0, 0, 0, 0, 0, 0);
        x.wire(2, 4, 2);
        heardAll(x, "a cut wire", 9, 0, 0, 0, 0, 0, 0);
        int[][] wrong = {{6, 0}, {-1, 0}, {0, 60}, {0, -1}, {Integer.MAX_VALUE, 0}, {0, Integer.MIN_VALUE}};
        for (int[] r : wrong) {
            Due.bad(x, "heard(" + r[0] + ", " + r[1] + ")", () -> x.heard(r[0], r[1]));
        }
    }

    private static void carts() {
        BorderHarp x = new BorderHarp();
        for (int w = 0; w < 5; w++) {
            x.wire(w, 0, w);
        }
        x.pass(0, 0, 3);
        heardAll(x, "a cart", 0, 1, 3, 3, 1, 0, 0);
        x.pass(59, 4, 3);
        heardAll(x, "a cart on the last wire", 59, 0, 0, 16, 16, 16, 16);
        x.pass(30, 3, 3);
        heardAll(x, "a cart ahead of the last wire", 30, 0, 8, 8, 8, 24, 24);
        x.wire(0, 4, 0);
        heardAll(x, "a cart on a cut wire", 0, 0, 2, 2, 0, 0, 0);
        x.wire(1, 1, 1);
        heardAll(x, "a cart ahead of a doubled wire", 0, 2, 2, 2, 2, 2, 0);
        x.wire(1, 2, 1);
        heardAll(x, "a cart ahead of a slack wire", 0, 0, 0, 0, 0, 0, 0);
    }

    private static void alarm() {
        BorderHarp x = new BorderHarp();
        x.pass(30, 2, 1);
        Due.due("no guards", x.alarm(30), 0);
        x.guard(0, true);
        x.guard(1, true);
        x.guard(3, true);
        x.guard(5, true);
        Due.due("two of four hear a man", x.alarm(30), 2);
        x.wind(30, 0);
        Due.due("wind is heard, too", x.alarm(30), 3);
        x.wind(30, 1);
        Due.due("twice heard is one guard", x.alarm(30), 3);
        Due.due("another minute", x.alarm(31), 0);
        Due.bad(x, "alarm(60)", () -> x.alarm(60));
        Due.bad(x, "alarm(-1)", () -> x.alarm(-1));
        Due.bad(x, "alarm(most)", () -> x.alarm(Integer.MAX_VALUE));
    }
}
