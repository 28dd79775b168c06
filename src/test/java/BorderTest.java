import java.math.BigInteger;
import java.util.ArrayList;
import java.util.List;

/** Promises 1 to 11, and 27 to 32: a border, its images, what is refused, what there is. */
public final class BorderTest {
    private static final int[] WILD = {Integer.MIN_VALUE, -1, Integer.MAX_VALUE};

    private BorderTest() {
    }

    public static void main(String[] args) {
        newObject();
        posts();
        postsForget();
        wire();
        frost();
        guard();
        windAndCalm();
        passAndUndo();
        typeAndClear();
        typeOfEach();
        images();
        imagesLeaveTheRest();
        status();
        countAndPart();
        digest();
        digestOfMost();
        Due.end();
    }

    private static void newObject() {
        BorderHarp x = new BorderHarp();
        int[] counts = {6, 0, 0, 0, 0, 0};
        for (int what = 0; what < 6; what++) {
            Due.due("new: count(" + what + ")", x.count(what), counts[what]);
        }
        for (int what = 0; what < 3; what++) {
            Due.due("new: status(" + what + ")", x.status(what), 0);
        }
        Due.due("new: part(0)", x.part(0), 0);
        Due.due("new: part(1)", x.part(1), 1);
        for (int w = 0; w < 5; w++) {
            Due.due("new: wire " + w, x.wire(w, 0, 0), 0);
        }
        Due.no(x, "new: from(0)", () -> x.from(0));
        Due.no(x, "new: from(1)", () -> x.from(1));
        Due.no(x, "new: undo()", () -> x.undo());
    }

    private static void posts() {
        BorderHarp x = new BorderHarp();
        Due.due("posts(9)", x.posts(9), 6);
        Due.due("posts(2)", x.posts(2), 9);
        Due.due("wire 0 of 2 posts", x.wire(0, 1, 5), 0);
        Due.bad(x, "wire 1 of 2 posts", () -> x.wire(1, 0, 0));
        Due.due("posts(6)", x.posts(6), 2);
        fill(x);
        x.image(0);
        x.lot(1, 0, 0);
        long above = x.part(0);
        long below = x.part(1);
        Due.type(x, "abc");
        x.guard(0, true);
        int no = x.status(1);
        for (int wrong : new int[] {1, 10, 0, Integer.MIN_VALUE, Integer.MAX_VALUE}) {
            Due.bad(x, "posts(" + wrong + ")", () -> x.posts(wrong));
        }
        Due.due("posts(6) again", x.posts(6), 6);
        int[] counts = {6, 0, 0, 0, 3, 0};
        for (int what = 0; what < 6; what++) {
            Due.due("after posts: count(" + what + ")", x.count(what), counts[what]);
        }
        for (int w = 0; w < 5; w++) {
            Due.due("after posts: wire " + w, x.wire(w, 0, 0), 0);
        }
        Due.due("after posts: part(0)", x.part(0), above);
        Due.due("after posts: part(1)", x.part(1), below);
        Due.due("after posts: status(1)", x.status(1), no);
        Due.due("after posts: from(0)", x.from(0), 1);
        Due.due("the image's guards", x.count(1), 2);
    }

    /** "n POSTS, all as at first": of more posts than before, too. */
    private static void postsForget() {
        for (int n = 2; n <= 9; n++) {
            BorderHarp x = new BorderHarp();
            x.posts(9);
            for (int w = 0; w < 8; w++) {
                x.wire(w, 4, 11);
                x.guard(w + 1, true);
                x.pass(w, w, 3);
                x.wind(w, w);
            }
            x.frost(5);
            Due.due("posts(" + n + ")", x.posts(n), 9);
            int[] counts = {n, 0, 0, 0, 0, 0};
            for (int what = 0; what < 6; what++) {
                Due.due("posts(" + n + "): count(" + what + ")", x.count(what), counts[what]);
            }
            Due.due("posts(9) after posts(" + n + ")", x.posts(9), n);
            for (int w = 0; w < 8; w++) {
                Due.due("wire " + w + " after posts(" + n + ")", x.wire(w, 0, 0), 0);
            }
        }
    }

    /** Six posts with something of everything: 2 guards, 2 winds, 3 passes, frost 3. */
    private static void fill(BorderHarp x) {
        x.wire(0, 1, 7);
        x.wire(4, 3, 11);
        x.frost(3);
        x.guard(0, true);
        x.guard(5, true);
        x.wind(10, 2);
        x.wind(59, 4);
        x.pass(10, 0, 3);
        x.pass(0, 4, 0);
        x.pass(11, 1, 2);
    }

    private static void wire() {
        BorderHarp x = new BorderHarp();
        for (int kind = 0; kind < 5; kind++) {
            for (int tune = 0; tune < 12; tune++) {
                x.wire(4, kind, tune);
                Due.due("wire of kind " + kind + " tune " + tune, x.wire(4, kind, tune), 12 * kind + tune);
            }
        }
        Due.due("another wire stays", x.wire(3, 0, 0), 0);
        Due.bad(x, "wire(5, 0, 0)", () -> x.wire(5, 0, 0));
        Due.bad(x, "wire(0, 5, 0)", () -> x.wire(0, 5, 0));
        Due.bad(x, "wire(0, 0, 12)", () -> x.wire(0, 0, 12));
        for (int wild : WILD) {
            Due.bad(x, "wire(" + wild + ", 0, 0)", () -> x.wire(wild, 0, 0));
            Due.bad(x, "wire(0, " + wild + ", 0)", () -> x.wire(0, wild, 0));
            Due.bad(x, "wire(0, 0, " + wild + ")", () -> x.wire(0, 0, wild));
        }
    }

    private static void frost() {
        BorderHarp x = new BorderHarp();
        Due.due("frost(5)", x.frost(5), 0);
        Due.due("frost(0)", x.frost(0), 5);
        Due.due("frost(2)", x.frost(2), 0);
        Due.bad(x, "frost(6)", () -> x.frost(6));
        for (int wild : WILD) {
            Due.bad(x, "frost(" + wild + ")", () -> x.frost(wild));
        }
        Due.due("count(5)", x.count(5), 2);
    }

    private static void guard() {
        BorderHarp x = new BorderHarp();
        Due.no(x, "guard(0, false)", () -> x.guard(0, false));
        Due.served(x, "guard(0, true)", () -> x.guard(0, true), 1);
        Due.served(x, "guard(5, true)", () -> x.guard(5, true), 1);
        Due.no(x, "guard(5, true) again", () -> x.guard(5, true));
        Due.due("two guards", x.count(1), 2);
        Due.served(x, "guard(0, false)", () -> x.guard(0, false), 1);
        Due.due("one guard", x.count(1), 1);
        Due.no(x, "guard(0, false) again", () -> x.guard(0, false));
        Due.bad(x, "guard(6, true)", () -> x.guard(6, true));
        Due.bad(x, "guard(6, false)", () -> x.guard(6, false));
        for (int wild : WILD) {
            Due.bad(x, "guard(" + wild + ", false)", () -> x.guard(wild, false));
        }
    }

    private static void windAndCalm() {
        BorderHarp x = new BorderHarp();
        Due.due("calm() of none", x.calm(), 0);
        for (int i = 0; i < 6; i++) {
            Due.due("wind " + i, x.wind(i == 5 ? 59 : 0, i % 5), i);
        }
        Due.full(x, "a 7th wind", () -> x.wind(0, 0));
        Due.bad(x, "a 7th wind that is BAD", () -> x.wind(60, 0));
        Due.due("calm()", x.calm(), 6);
        Due.due("count(2)", x.count(2), 0);
        Due.due("nothing is heard", x.heard(0, 0), 0);
        Due.due("a wind after calm", x.wind(1, 4), 0);
        Due.bad(x, "wind(0, 5)", () -> x.wind(0, 5));
        for (int wild : WILD) {
            Due.bad(x, "wind(" + wild + ", 0)", () -> x.wind(wild, 0));
            Due.bad(x, "wind(0, " + wild + ")", () -> x.wind(0, wild));
        }
    }

    private static void passAndUndo() {
        BorderHarp x = new BorderHarp();
        for (int i = 0; i < 8; i++) {
            Due.due("pass " + i, x.pass(i == 7 ? 59 : i, i % 5, i % 4), i);
        }
        Due.full(x, "a 9th pass", () -> x.pass(0, 0, 0));
        Due.bad(x, "a 9th pass that is BAD", () -> x.pass(0, 0, 4));
        Due.due("undo()", x.undo(), 7);
        Due.due("the last one is gone", x.heard(2, 59), 0);
        Due.due("a pass after undo", x.pass(3, 0, 0), 7);
        for (int left = 7; left >= 0; left--) {
            Due.due("undo() to " + left, x.undo(), left);
        }
        Due.no(x, "undo() of none", () -> x.undo());
        Due.bad(x, "pass(60, 0, 0)", () -> x.pass(60, 0, 0));
        Due.bad(x, "pass(0, 5, 0)", () -> x.pass(0, 5, 0));
        Due.bad(x, "pass(0, 0, 4)", () -> x.pass(0, 0, 4));
        for (int wild : WILD) {
            Due.bad(x, "pass(" + wild + ", 0, 0)", () -> x.pass(wild, 0, 0));
            Due.bad(x, "pass(0, " + wild + ", 0)", () -> x.pass(0, wild, 0));
            Due.bad(x, "pass(0, 0, " + wild + ")", () -> x.pass(0, 0, wild));
        }
    }

    private static void typeAndClear() {
        BorderHarp x = new BorderHarp();
        Due.due("clear() of none", x.clear(), 0);
        Due.due("the lowest 5 bytes", x.type(Due.packed("zzzposts"), 5), 5);
        Due.due("one byte", x.type(-1L << 8 | ' ', 1), 6);
        Due.due("two bytes", x.type(Due.packed("3;"), 2), 8);
        Due.due("the highest came first", x.read(), 1);
        Due.due("count(0)", x.count(0), 3);
        Due.due("the text stays", x.count(4), 8);
        for (int wrong : new int[] {0, 9, -1, Integer.MIN_VALUE, Integer.MAX_VALUE}) {
            Due.bad(x, "type(0, " + wrong + ")", () -> x.type(0, wrong));
        }
        for (int i = 2; i <= 24; i++) {
            Due.due("type to " + 8 * i, x.type(0, 8), 8 * i);
        }
        Due.due("type to 199", x.type(0, 7), 199);
        Due.full(x, "type 2 bytes to 201", () -> x.type(0, 2));
        Due.bad(x, "type 9 bytes", () -> x.type(0, 9));
        Due.due("type to 200", x.type(0, 1), 200);
        Due.full(x, "type 1 byte to 201", () -> x.type(0, 1));
        Due.full(x, "type 8 bytes to 208", () -> x.type(0, 8));
        Due.due("clear()", x.clear(), 200);
        Due.due("clear() again", x.clear(), 0);
        Due.due("count(4)", x.count(4), 0);
    }

    /** "The lowest n (1 .. 8) bytes of v, the highest of them first": by pieces of each n, whatever is above them. */
    private static void typeOfEach() {
        String text = "posts 9;wire 7 4 11;guard 8;wind 59 7;pass 58 6 2;frost 5;".concat(" ".repeat(6));
        for (int n = 1; n <= 8; n++) {
            BorderHarp x = new BorderHarp();
            for (int at = 0; at < text.length(); at += n) {
                String piece = text.substring(at, Math.min(text.length(), at + n));
                int many = piece.length();
                long above = many == 8 ? 0 : -1L << 8 * many;
                Due.due("pieces of " + n + " to " + (at + many), x.type(above | Due.packed(piece), many), at + many);
            }
            Due.due("read() by pieces of " + n, x.read(), 6);
            Due.due("its wire by pieces of " + n, x.wire(7, 0, 0), 59);
            Due.due("its guard by pieces of " + n, x.guard(8, true), -3);
        }
        BorderHarp x = new BorderHarp();
        Due.due("eight bytes of 255", x.type(-1, 8), 8);
        Due.due("255 begins no token", x.read(), -10);
        Due.due("eight bytes of 0", x.type(0, 8), 16);
    }

    private static void images() {
        BorderHarp x = new BorderHarp();
        fill(x);
        long first = x.digest();
        Due.due("image(1)", x.image(1), 1);
        Due.no(x, "from(0) before image(0)", () -> x.from(0));
        x.posts(9);
        x.wire(7, 4, 3);
        x.wind(1, 7);
        long second = x.digest();
        Due.due("image(0)", x.image(0), 1);
        Due.due("from(1)", x.from(1), 1);
        Due.due("as it was", x.digest(), first);
        x.undo();
        x.calm();
        x.guard(0, false);
        x.wire(0, 0, 0);
        x.frost(0);
        Due.due("from(1) again", x.from(1), 1);
        Due.due("the image did not move", x.digest(), first);
        Due.due("from(0)", x.from(0), 1);
        Due.due("the other one", x.digest(), second);
        Due.due("the other one's wire", x.wire(7, 0, 0), 51);
        for (int wrong : new int[] {2, -1, Integer.MIN_VALUE, Integer.MAX_VALUE}) {
            Due.bad(x, "image(" + wrong + ")", () -> x.image(wrong));
            Due.bad(x, "from(" + wrong + ")", () -> x.from(wrong));
        }
    }

    private static void imagesLeaveTheRest() {
        BorderHarp x = new BorderHarp();
        x.image(0);
        Due.type(x, "posts 4");
        x.doubt(50, 50);
        x.undo();
        x.frost(9);
        x.type(0, 9);
        x.image(1);
        x.from(0);
        Due.due("the text", x.count(4), 7);
        Due.due("above", x.part(0), 2);
        Due.due("below", x.part(1), 3);
        Due.due("status(0)", x.status(0), 2);
        Due.due("status(1)", x.status(1), 1);
        Due.due("the images", x.from(1), 1);
    }

    private static void status() {
        BorderHarp x = new BorderHarp();
        Due.refused(x, "status(3)", () -> x.status(3), -1, 0);
        Due.refused(x, "status(-1)", () -> x.status(-1), -1, 0);
        Due.refused(x, "status(least)", () -> x.status(Integer.MIN_VALUE), -1, 0);
        Due.refused(x, "which(0, 0, 0, 0, 0)", () -> x.which(0, 0, 0, 0, 0), -10, 0);
        Due.refused(x, "slip(2)", () -> x.slip(2), -10, 0);
        Due.served(x, "which(..) that are not so many", () -> x.which(0, 4095, 1, 0, 0), -5);
        Due.served(x, "a fault", () -> x.read(), -10);
        for (int w = 0; w < 5; w++) {
            x.wire(w, 4, 0);
        }
        Due.served(x, "slip(0) of none", () -> x.slip(0), -1);
        Due.served(x, "surest(1, 0) of none", () -> x.surest(1, 0), -1);
        Due.due("status(0)", x.status(0), 5);
        Due.due("status(1)", x.status(1), 0);
        Due.due("status(2)", x.status(2), 0);
    }

    private static void countAndPart() {
        BorderHarp x = new BorderHarp();
        x.posts(7);
        fill(x);
        x.type(0, 5);
        x.doubt(20, 50);
        int[] counts = {7, 2, 2, 3, 5, 3};
        for (int what = 0; what < 6; what++) {
            Due.due("count(" + what + ")", x.count(what), counts[what]);
        }
        Due.due("part(0)", x.part(0), 1);
        Due.due("part(1)", x.part(1), 3);
        for (int wrong : new int[] {-1, 6, Integer.MIN_VALUE, Integer.MAX_VALUE}) {
            Due.bad(x, "count(" + wrong + ")", () -> x.count(wrong));
        }
        for (int wrong : new int[] {-1, 2, Integer.MIN_VALUE, Integer.MAX_VALUE}) {
            Due.bad(x, "part(" + wrong + ")", () -> x.part(wrong));
        }
    }

    private static void digest() {
        BorderHarp x = new BorderHarp();
        Due.due("digest() of a new one", x.digest(),
                hash(6, 0, 0, 0, 0, 0, 0, 0, 0, 0, 0, 0, 0, 0, 0, 0, 0, 0, 1));
        fill(x);
        x.type(0, 4);
        x.doubt(50, 50);
        Due.due("digest()", x.digest(), hash(6, 2, 2, 3, 4, 3, 33, 1, 7, 0, 0, 0, 0, 0, 0, 3, 11,
                10, 2, 59, 4, 10, 0, 3, 0, 4, 0, 11, 1, 2, 2, 3));
        x.posts(2);
        Due.due("digest() of two posts", x.digest(), hash(2, 0, 0, 0, 4, 0, 0, 0, 0, 2, 3));
    }

    /** The longest one: nine posts, all guards, six winds, eight passes, 200 bytes. */
    private static void digestOfMost() {
        BorderHarp x = new BorderHarp();
        x.posts(9);
        List<Long> due = new ArrayList<>(List.of(9L, 9L, 6L, 8L, 200L, 5L, 511L));
        for (int w = 0; w < 8; w++) {
            x.wire(w, w % 5, 11 - w);
            due.addAll(List.of(w % 5L, 11L - w));
        }
        for (int i = 0; i < 6; i++) {
            x.wind(59 - i, 7 - i);
            due.addAll(List.of(59L - i, 7L - i));
        }
        for (int i = 0; i < 8; i++) {
            x.pass(50 + i, i, i % 4);
            due.addAll(List.of(50L + i, (long) i, i % 4L));
        }
        for (int post = 0; post < 9; post++) {
            x.guard(post, true);
        }
        x.frost(5);
        x.doubt(1, 99);
        due.addAll(List.of(100L, 9901L));
        for (int i = 0; i < 25; i++) {
            x.type(i, 8);
        }
        Due.due("digest() of the most", x.digest(), hash(due.stream().mapToLong(v -> v).toArray()));
    }

    /** By numbers without an end, of which the lowest 64 bits are left: that is how a long wraps. */
    private static long hash(long... values) {
        BigInteger h = BigInteger.valueOf(787);
        for (long v : values) {
            h = h.multiply(BigInteger.valueOf(31)).add(BigInteger.valueOf(v));
        }
        return h.longValue();
    }
}
