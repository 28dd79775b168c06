/**
 * "Refused, changing nothing but STATUS, the first of: BAD -2 ..; NO -3 as told; FULL -4": each NO and each FULL of
 * the document, on both sides of where it begins. LimitsTest has each BAD.
 */
public final class RefusedTest {
    private static final int MOST_CALLS = 512;

    private RefusedTest() {
    }

    public static void main(String[] args) {
        guardThatIsSo();
        nothingToUndo();
        noImageKept();
        windsFull();
        passesFull();
        textFull();
        textFullByEach();
        statusOfEach();
        refusedToTheLast();
        Due.end();
    }

    /** "guard: BAD; NO: it is so." */
    private static void guardThatIsSo() {
        for (int post = 0; post < 6; post++) {
            Whole.refused(BorderHarp::new, Whole.NO, -3, "guard", post, 0);
        }
        for (int post : new int[] {0, 8}) {
            Whole.refused(() -> Made.rich(9), Whole.NO, -3, "guard", post, 1);
            Whole.changedBorder(() -> Made.rich(9), 1, "guard", post, 0);
        }
        for (int post : new int[] {1, 7}) {
            Whole.refused(() -> Made.rich(9), Whole.NO, -3, "guard", post, 0);
            Whole.changedBorder(() -> Made.rich(9), 1, "guard", post, 1);
        }
        BorderHarp x = new BorderHarp();
        for (int post = 0; post < 6; post++) {
            Due.due("a guard at " + post, x.guard(post, true), 1);
            Due.due("again at " + post, x.guard(post, true), -3);
            Due.due("guards", x.count(1), post + 1);
        }
        for (int post = 5; post >= 0; post--) {
            Due.due("none at " + post, x.guard(post, false), 1);
            Due.due("again none at " + post, x.guard(post, false), -3);
            Due.due("guards left", x.count(1), post);
        }
        Due.due("status(1)", x.status(1), 12);
    }

    /** "undo: NO: there is none." */
    private static void nothingToUndo() {
        Whole.refused(BorderHarp::new, Whole.NO, -3, "undo");
        Whole.refused(RefusedTest::allUndone, Whole.NO, -3, "undo");
        Whole.refused(() -> passesGone("posts"), Whole.NO, -3, "undo");
        Whole.refused(() -> passesGone("from"), Whole.NO, -3, "undo");
        Whole.refused(() -> passesGone("read"), Whole.NO, -3, "undo");
        Whole.changedBorder(() -> Made.rich(6), 2, "undo");
        Whole.changedBorder(() -> Made.full(6), 7, "undo");
        BorderHarp x = new BorderHarp();
        x.pass(0, 0, 0);
        Due.due("undo() of one", x.undo(), 0);
        Due.due("undo() of none", x.undo(), -3);
    }

    private static BorderHarp allUndone() {
        BorderHarp x = Made.rich(6);
        x.undo();
        x.undo();
        x.undo();
        return x;
    }

    /** An object of which the passes have gone by this call. */
    private static BorderHarp passesGone(String by) {
        BorderHarp x = Made.rich(6);
        switch (by) {
            case "posts":
                x.posts(6);
                break;
            case "from":
                x.from(0);
                break;
            default:
                x.clear();
                Due.type(x, "posts 6;");
                x.read();
        }
        return x;
    }

    /** "from: BAD; NO: none was kept." */
    private static void noImageKept() {
        Whole.refused(BorderHarp::new, Whole.NO, -3, "from", 0);
        Whole.refused(BorderHarp::new, Whole.NO, -3, "from", 1);
        for (int kept = 0; kept < 2; kept++) {
            int one = kept;
            Whole.refused(() -> withImage(one), Whole.NO, -3, "from", 1 - one);
            Whole.changedBorder(() -> withImage(one), 1, "from", one);
        }
        for (long wrong : new long[] {-1, 2}) {
            Whole.refused(BorderHarp::new, Whole.BAD, -2, "from", wrong);
            Whole.refused(BorderHarp::new, Whole.BAD, -2, "image", wrong);
        }
    }

    private static BorderHarp withImage(int i) {
        BorderHarp x = new BorderHarp();
        x.posts(3);
        x.image(i);
        x.posts(4);
        x.pass(1, 1, 1);
        Due.type(x, Made.TEXT);
        return x;
    }

    /** "WINDS 0 .. 5", "wind: BAD; FULL: 6." */
    private static void windsFull() {
        Whole.refused(() -> Made.full(6), Whole.FULL, -4, "wind", 0, 0);
        Whole.refused(() -> Made.full(9), Whole.FULL, -4, "wind", 59, 7);
        Whole.refused(() -> Made.full(2), Whole.FULL, -4, "wind", 59, 0);
        BorderHarp x = new BorderHarp();
        for (int i = 0; i < 6; i++) {
            Due.due("wind " + i, x.wind(7, 3), i);
        }
        Due.due("a 7th wind", x.wind(7, 3), -4);
        x.undo();
        Due.due("undo does not take a wind back", x.wind(7, 3), -4);
        x.image(0);
        Due.due("calm() of 6", x.calm(), 6);
        Due.due("calm() of none", x.calm(), 0);
        Due.due("wind 0 again", x.wind(7, 3), 0);
        x.from(0);
        Due.due("6 winds by an image", x.wind(7, 3), -4);
        x.posts(6);
        Due.due("no winds by posts", x.wind(7, 3), 0);
        Due.type(x, "posts 6;" + "wind 1 1;".repeat(6));
        x.read();
        Due.due("6 winds by a text", x.wind(7, 3), -4);
        Due.due("status(2)", x.status(2), 4);
    }

    /** "PASSES 0 .. 7", "pass: BAD; FULL: 8." */
    private static void passesFull() {
        Whole.refused(() -> Made.full(6), Whole.FULL, -4, "pass", 0, 0, 0);
        Whole.refused(() -> Made.full(9), Whole.FULL, -4, "pass", 59, 7, 3);
        Whole.refused(() -> Made.full(2), Whole.FULL, -4, "pass", 59, 0, 3);
        BorderHarp x = new BorderHarp();
        for (int i = 0; i < 8; i++) {
            Due.due("pass " + i, x.pass(7, 3, 1), i);
        }
        Due.due("a 9th pass", x.pass(7, 3, 1), -4);
        x.calm();
        Due.due("calm takes no pass back", x.pass(7, 3, 1), -4);
        x.image(0);
        Due.due("undo() of 8", x.undo(), 7);
        Due.due("pass 7 again", x.pass(7, 3, 1), 7);
        Due.due("a 9th pass again", x.pass(7, 3, 1), -4);
        x.undo();
        x.from(0);
        Due.due("8 passes by an image", x.pass(7, 3, 1), -4);
        x.posts(6);
        Due.due("no passes by posts", x.pass(7, 3, 1), 0);
        Due.type(x, "posts 6;" + "pass 1 1 1;".repeat(8));
        x.read();
        Due.due("8 passes by a text", x.pass(7, 3, 1), -4);
        Due.due("status(2)", x.status(2), 5);
    }

    /** "a TEXT (200 bytes at most)", "type: BAD; FULL": of bytes that do not all fit none comes to it. */
    private static void textFull() {
        for (int n = 1; n <= 8; n++) {
            Whole.refused(() -> Made.full(6), Whole.FULL, -4, "type", ' ', n);
        }
        BorderHarp x = new BorderHarp();
        Due.type(x, "posts 6;" + " ".repeat(188));
        Due.full(x, "8 bytes to 204", () -> x.type(Due.packed("guard 1;"), 8));
        Due.due("5 bytes to 201", x.type(Due.packed("rd 1;"), 5), -4);
        Due.due("count(4)", x.count(4), 196);
        Due.due("read() without them", x.read(), 1);
        Due.due("4 bytes to 200", x.type(Due.packed("   z"), 4), 200);
        Due.due("the last byte", x.read(), -10 - 199);
        Due.due("clear() of 200", x.clear(), 200);
        Due.due("8 bytes after clear", x.type(Due.packed("posts 7;"), 8), 8);
        Due.due("read() after clear", x.read(), 1);
        Due.due("count(0)", x.count(0), 7);
    }

    /** For each n: n bytes to 200 are served, to 201 they are refused. */
    private static void textFullByEach() {
        for (int n = 1; n <= 8; n++) {
            int many = n;
            Whole.refused(() -> withText(201 - many), Whole.FULL, -4, "type", ' ', n);
            BorderHarp x = withText(200 - n);
            Due.due("type " + n + " bytes to 200", x.type(0, n), 200);
        }
    }

    private static BorderHarp withText(int length) {
        BorderHarp x = Made.rich(4);
        Made.fillText(x, length);
        return x;
    }

    /** "STATUS: how many calls were refused as BAD, NO, FULL": one after another, each of its own. */
    private static void statusOfEach() {
        BorderHarp x = new BorderHarp();
        for (int i = 1; i <= 3; i++) {
            x.posts(10);
            Due.due("a BAD more", x.status(0), 2L * i - 1);
            x.which(1, 0, 1, 0, 0);
            Due.due("a BAD of -10 more", x.status(0), 2L * i);
            x.undo();
            Due.due("a NO more", x.status(1), i);
        }
        Made.fillText(x, 200);
        x.type(0, 1);
        Due.due("a FULL more", x.status(2), 1);
        Due.due("BAD as before", x.status(0), 6);
        Due.due("NO as before", x.status(1), 3);
        Due.due("status(3)", x.status(3), -1);
        Due.due("it counts as BAD", x.status(0), 7);
    }

    /** "An object is used for at most 512 calls": refusals are counted to the last of them. */
    private static void refusedToTheLast() {
        BorderHarp x = new BorderHarp();
        for (int i = 1; i < MOST_CALLS; i++) {
            x.status(-1);
        }
        Due.due("status(0) as the 512th call", x.status(0), MOST_CALLS - 1);
    }
}
