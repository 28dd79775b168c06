/** Objects for tests to begin with. Each tells the same when it is made again. */
final class Made {
    /** Every byte but the blanks tells something of the border. */
    static final String TEXT = "posts 5;wire 3 2 7;wire 0 1 10;frost 4;guard 4;wind 33 2;pass 44 1 2;";

    private Made() {
    }

    /** Of n posts, with something of everything: images, a text that is a border, a fraction, refusals of each reason. */
    static BorderHarp rich(int n) {
        BorderHarp x = new BorderHarp();
        x.posts(3);
        x.wire(1, 2, 9);
        x.guard(2, true);
        x.image(0);
        x.posts(9);
        x.wire(7, 1, 4);
        x.pass(58, 7, 3);
        x.image(1);
        refuseSome(x);
        Due.type(x, TEXT);
        border(x, n);
        x.doubt(20, 50);
        return x;
    }

    private static void refuseSome(BorderHarp x) {
        x.frost(6);
        x.guard(0, false);
        x.guard(1, false);
        for (int i = 0; i < 9; i++) {
            x.wind(1, 1);
        }
    }

    private static void border(BorderHarp x, int n) {
        x.posts(n);
        x.wire(n - 2, 3, 11);
        x.wire(0, 1, 7);
        x.frost(3);
        x.guard(0, true);
        x.guard(n - 1, true);
        x.wind(10, 0);
        x.wind(59, n - 2);
        x.pass(10, 0, 3);
        x.pass(0, n - 2, 0);
        x.pass(11, 0, 2);
    }

    /** As a rich one, but with 6 winds, 8 passes and 200 bytes of text. */
    static BorderHarp full(int n) {
        BorderHarp x = rich(n);
        for (int i = 2; i < 6; i++) {
            x.wind(i, 0);
        }
        for (int i = 3; i < 8; i++) {
            x.pass(i, 0, 1);
        }
        fillText(x, 200);
        return x;
    }

    /** Blanks behind the text, until it has so many bytes. */
    static void fillText(BorderHarp x, int length) {
        while (x.count(4) < length) {
            x.type(' ', 1);
        }
    }
}
