/** Promises 17 to 26: who it was and where, guards, clashes, slips, lots and doubts. */
public final class WhoTest {
    private WhoTest() {
    }

    public static void main(String[] args) {
        which();
        whichRefused();
        cover();
        clashes();
        retune();
        retuneBySilk();
        slip();
        slipLast();
        lot();
        surest();
        whence();
        doubled();
        doubt();
        Due.end();
    }

    private static BorderHarp scale() {
        BorderHarp x = new BorderHarp();
        for (int w = 0; w < 5; w++) {
            x.wire(w, 0, w);
        }
        return x;
    }

    private static void whichAll(BorderHarp x, int a, int heardA, int b, int heardB, int... due) {
        String call = "which(" + a + ", " + heardA + ", " + b + ", " + heardB + ", ";
        Due.served(x, call + "NONE)", () -> x.which(a, heardA, b, heardB, -1), due.length);
        for (int i = 0; i < due.length; i++) {
            Due.due(call + i + ")", x.which(a, heardA, b, heardB, i), due[i]);
        }
        Due.served(x, call + due.length + ")", () -> x.which(a, heardA, b, heardB, due.length), -5);
        Due.served(x, call + "most)", () -> x.which(a, heardA, b, heardB, Integer.MAX_VALUE), -5);
    }

    private static void which() {
        BorderHarp x = scale();
        whichAll(x, 2, 4, 3, 4, 20, 21, 22);
        whichAll(x, 2, 4, 3, 12, 23);
        whichAll(x, 0, 0, 5, 0, 10, 20, 21, 30);
        whichAll(x, 5, 0, 0, 0, 10, 20, 21, 30);
        whichAll(x, 0, 1, 1, 1, 0, 1, 2);
        whichAll(x, 0, 1, 1, 3, 3);
        whichAll(x, 4, 16, 5, 16, 40, 41, 42, 43);
        whichAll(x, 0, 4095, 1, 4095);
        x.wire(0, 4, 0);
        x.wire(1, 4, 0);
        whichAll(x, 0, 0, 1, 0, 0, 1, 2, 3, 10, 11, 12, 13, 20, 30, 31, 40, 41, 42, 43);
    }

    private static void whichRefused() {
        BorderHarp x = new BorderHarp();
        int[][] wrong = {{0, 0, 0, 0, 0}, {3, 1, 3, 1, -1}, {6, 0, 1, 0, 0}, {-1, 0, 1, 0, 0}, {0, 0, 6, 0, 0},
            {0, 0, -1, 0, 0}, {0, 4096, 1, 0, 0}, {0, -1, 1, 0, 0}, {0, 0, 1, 4096, 0}, {0, 0, 1, -1, 0},
            {0, 0, 1, 0, -2}, {0, 0, 1, 0, Integer.MIN_VALUE}};
        for (int[] r : wrong) {
            Due.refused(x, "which(" + r[0] + ", " + r[1] + ", " + r[2] + ", " + r[3] + ", " + r[4] + ")",
                    () -> x.which(r[0], r[1], r[2], r[3], r[4]), -10, 0);
        }
    }

    private static void cover() {
        BorderHarp x = new BorderHarp();
        // Each wire is heard at its own ends alone, so one of any two neighbours must be there.
        Due.due("cover(1)", x.cover(1), 1 + 4 + 16);
        Due.due("cover(2)", x.cover(2), 63);
        Due.due("cover(3)", x.cover(3), -1);
        x.wire(4, 4, 0);
        Due.due("cover(1) with one cut", x.cover(1), 2 + 8);
        Due.due("cover(2) with one cut", x.cover(2), 31);
        x.wire(2, 2, 0);
        Due.due("cover(1) with a slack one", x.cover(1), -1);
        for (int w = 0; w < 5; w++) {
            x.wire(w, 1, 0);
        }
        // Doubled wires are heard by a deer 2 wires away: 0 at posts 0..3, 4 at posts 2..5.
        Due.due("cover(1) of doubled ones", x.cover(1), 4);
        Due.due("cover(2) of doubled ones", x.cover(2), 4 + 8);
        Due.due("cover(3) of doubled ones", x.cover(3), 1 + 4 + 8 + 16);
        x.guard(5, true);
        Due.due("guards as they are don't matter", x.cover(1), 4);
        for (int w = 0; w < 5; w++) {
            x.wire(w, 4, 0);
        }
        Due.due("cover(3) of cut ones", x.cover(3), 0);
        for (int wrong : new int[] {0, 4, -1, Integer.MIN_VALUE, Integer.MAX_VALUE}) {
            Due.bad(x, "cover(" + wrong + ")", () -> x.cover(wrong));
        }
    }

    private static void clashes() {
        BorderHarp x = new BorderHarp();
        // By a man wires are heard one wire off, so wires up to 3 apart meet: 4 + 3 + 2 pairs.
        Due.due("like wires", x.clashes(), 9);
        for (int w = 0; w < 5; w++) {
            x.wire(w, 2, 0);
        }
        Due.due("slack ones meet beside one another", x.clashes(), 4);
        for (int w = 0; w < 5; w++) {
            x.wire(w, 0, w);
        }
        Due.due("no two alike", x.clashes(), 0);
        x.wire(0, 3, 4);
        Due.due("silk at 3 is not heard at post 2", x.clashes(), 0);
        x.wire(1, 0, 3);
        Due.due("silk and wire, and the wires 1 and 3", x.clashes(), 2);
        x.frost(1);
        Due.due("frost brings wire 2 to the silk's note", x.clashes(), 2);
        x.frost(2);
        Due.due("frost takes the wires off the silk", x.clashes(), 1);
        x.wire(3, 4, 3);
        Due.due("a cut one does not clash", x.clashes(), 0);
    }

    private static void retune() {
        BorderHarp x = scale();
        Due.due("none needed", x.retune(), 0);
        x.wire(1, 0, 0);
        Due.due("one of two", x.retune(), 1);
        x.wire(2, 0, 0);
        Due.due("two of three", x.retune(), 3);
        x.wire(0, 4, 0);
        Due.due("a cut one does not count", x.retune(), 2);
        x.frost(5);
        Due.due("whatever the frost is", x.retune(), 2);
        x.wire(0, 0, 2);
        x.wire(1, 0, 1);
        x.wire(2, 0, 2);
        x.wire(3, 0, 3);
        x.wire(4, 0, 2);
        // 0 with 2 and 2 with 4 clash; 0 and 4 don't meet.
        Due.due("the one in the middle", x.retune(), 4);
    }

    private static void retuneBySilk() {
        BorderHarp x = new BorderHarp();
        x.posts(3);
        x.wire(0, 3, 1);
        // The silk's note is 0; a wire may not have it by any frost 0 .. 5: tunes 7 .. 11 and 0.
        for (int tune = 0; tune < 12; tune++) {
            x.wire(1, 0, tune);
            Due.due("silk beside tune " + tune, x.retune(), tune == 0 || tune >= 7 ? 1 : 0);
        }
        x.wire(1, 3, 1);
        Due.due("two of silk", x.retune(), 1);
        x.wire(1, 3, 2);
        Due.due("two of silk apart", x.retune(), 0);
        x.posts(9);
        for (int w = 0; w < 8; w++) {
            x.wire(w, 1, w);
        }
        Due.due("eight doubled ones", x.retune(), 0);
        x.wire(4, 3, 0);
        Due.due("seven that all meet, of six notes beside silk", x.retune(), -1);
        x.wire(7, 4, 0);
        // The silk's note is 11, so just the notes 0 .. 5 are left to the others.
        x.wire(3, 1, 3);
        x.wire(5, 1, 4);
        x.wire(6, 1, 5);
        Due.due("six that all meet, of six notes", x.retune(), 0);
        x.wire(6, 1, 6);
        Due.due("one of them is off", x.retune(), 64);
    }

    private static void slips(BorderHarp x, String what, int guards, int place) {
        Due.served(x, what + ": slip(0)", () -> x.slip(0), guards);
        Due.served(x, what + ": slip(1)", () -> x.slip(1), place);
    }

    private static void slip() {
        BorderHarp x = new BorderHarp();
        slips(x, "no guards", 0, 0);
        x.guard(1, true);
        slips(x, "guard 1 hears the wires 0 to 2", 0, 3);
        x.guard(3, true);
        x.guard(4, true);
        slips(x, "wire 0 is heard by one of three", 1, 0);
        x.wind(5, 3);
        // Wind at 3 hides it at the posts 3 and 4.
        slips(x, "wind hides a man", 0, 503);
        x.pass(0, 0, 3);
        slips(x, "passes hide nothing", 0, 503);
        x.wind(4, 2);
        slips(x, "wind hides a man near by alone", 0, 503);
        x.wire(0, 4, 0);
        x.wire(3, 4, 0);
        slips(x, "not on cut ones", 2, 1);
        x.wind(0, 2);
        slips(x, "of like ones the first minute, then wire", 2, 1);
        x.wire(1, 2, 0);
        x.wire(2, 4, 0);
        slips(x, "a slack one is heard at its ends", 1, 1);
        x.wire(1, 4, 0);
        x.wire(4, 4, 0);
        slips(x, "all cut", -1, -1);
        for (int wrong : new int[] {2, -1, Integer.MIN_VALUE, Integer.MAX_VALUE}) {
            Due.refused(x, "slip(" + wrong + ")", () -> x.slip(wrong), -10, 0);
        }
    }

    private static void slipLast() {
        BorderHarp x = new BorderHarp();
        x.posts(2);
        x.guard(0, true);
        x.guard(1, true);
        slips(x, "no wind", 2, 0);
        x.wind(59, 0);
        slips(x, "wind in the last minute", 0, 5900);
        x.wire(0, 2, 0);
        slips(x, "wind on a slack one is not heard", 2, 0);
        x.wire(0, 0, 0);
        for (int minute = 0; minute < 5; minute++) {
            x.wind(minute, 0);
        }
        slips(x, "wind in the first minutes", 0, 0);
        x.posts(3);
        x.guard(0, true);
        x.guard(2, true);
        for (int minute = 0; minute < 6; minute++) {
            x.wind(minute, 1);
        }
        // A man on either wire is heard at all three posts; wind at wire 1 hides him at post 2 alone.
        slips(x, "wind that hides him from one of two", 1, 1);
        x.wire(1, 4, 0);
        slips(x, "wind on a cut wire hides nothing", 2, 0);
    }

    private static void fraction(BorderHarp x, String what, long above, long below) {
        Due.due(what + ": part(0)", x.part(0), above);
        Due.due(what + ": part(1)", x.part(1), below);
    }

    private static void lot() {
        BorderHarp x = new BorderHarp();
        Due.served(x, "lot(1, 0, 0)", () -> x.lot(1, 0, 0), 1);
        fraction(x, "2 of 6 posts hear a deer", 2, 3);
        x.lot(3, 2, 0);
        fraction(x, "3 guards of 6, 2 hear", 1, 5);
        x.lot(2, 2, 1);
        fraction(x, "a man at 2 is heard at 4", 1, 15);
        x.lot(1, 2, 2);
        fraction(x, "a pair at 2 is heard at all", 0, 1);
        x.lot(2, 0, 3);
        fraction(x, "a cart's own wire alone", 1, 15);
        x.lot(6, 0, 0);
        fraction(x, "all posts", 0, 1);
        x.lot(4, 4, 0);
        fraction(x, "the last 4 of 6", 1, 15);
        x.wire(1, 4, 0);
        x.lot(6, 1, 3);
        fraction(x, "a cut one is never heard", 1, 1);
        int[][] wrong = {{0, 0, 0}, {7, 0, 0}, {-1, 0, 0}, {1, 5, 0}, {1, -1, 0}, {1, 0, 4}, {1, 0, -1},
            {Integer.MAX_VALUE, 0, 0}, {1, Integer.MIN_VALUE, 0}, {1, 0, Integer.MAX_VALUE}};
        for (int[] r : wrong) {
            Due.bad(x, "lot(" + r[0] + ", " + r[1] + ", " + r[2] + ")", () -> x.lot(r[0], r[1], r[2]));
        }
        fraction(x, "what is refused leaves it", 1, 1);
    }

    private static void surest() {
        BorderHarp x = new BorderHarp();
        Due.served(x, "surest(1, 0)", () -> x.surest(1, 0), 0);
        fraction(x, "of like ones the least", 2, 3);
        x.wire(0, 1, 0);
        Due.due("surest(2, 1)", x.surest(2, 1), 4);
        fraction(x, "a man at the last wire is heard at 3", 1, 5);
        x.wire(3, 2, 0);
        Due.due("surest(2, 1) with a slack one", x.surest(2, 1), 3);
        fraction(x, "heard at 2", 2, 5);
        x.wire(3, 4, 0);
        Due.due("surest(1, 1) not of a cut one", x.surest(1, 1), 4);
        fraction(x, "heard at 3", 1, 2);
        Due.due("surest(6, 3) of chances of 0", x.surest(6, 3), 0);
        fraction(x, "never unheard", 0, 1);
        x.lot(1, 1, 0);
        for (int w = 0; w < 5; w++) {
            x.wire(w, 4, 0);
        }
        Due.due("surest(1, 0) of cut ones", x.surest(1, 0), -1);
        fraction(x, "none leaves it", 2, 3);
        int[][] wrong = {{0, 0}, {7, 0}, {-1, 0}, {1, 4}, {1, -1}, {Integer.MAX_VALUE, 0}, {1, Integer.MIN_VALUE}};
        for (int[] r : wrong) {
            Due.bad(x, "surest(" + r[0] + ", " + r[1] + ")", () -> x.surest(r[0], r[1]));
        }
        fraction(x, "what is refused leaves it", 2, 3);
    }

    private static void whence() {
        BorderHarp x = new BorderHarp();
        Due.due("whence(2, 0, 1)", x.whence(2, 0, 1), 2 + 4);
        Due.due("whence(2, 0, 2)", x.whence(2, 0, 2), 1 + 2 + 4 + 8);
        Due.due("whence(2, 0, 3)", x.whence(2, 0, 3), 31);
        Due.due("whence(0, 0, 1)", x.whence(0, 0, 1), 1);
        Due.due("whence(5, 0, 1)", x.whence(5, 0, 1), 16);
        Due.due("whence(2, 11, 3)", x.whence(2, 11, 3), 0);
        x.wire(1, 2, 0);
        Due.due("a slack one is of note 11", x.whence(2, 11, 2), 2);
        x.frost(1);
        Due.due("by frost of 0", x.whence(2, 0, 2), 2);
        x.wire(1, 3, 1);
        Due.due("silk by no frost", x.whence(2, 0, 3), 2);
        x.wire(1, 4, 11);
        Due.due("a cut one never", x.whence(2, 0, 3), 0);
        int[][] wrong = {{6, 0, 1}, {-1, 0, 1}, {0, 12, 1}, {0, -1, 1}, {0, 0, 0}, {0, 0, 4},
            {Integer.MAX_VALUE, 0, 1}, {0, Integer.MIN_VALUE, 1}, {0, 0, Integer.MAX_VALUE}};
        for (int[] r : wrong) {
            Due.bad(x, "whence(" + r[0] + ", " + r[1] + ", " + r[2] + ")", () -> x.whence(r[0], r[1], r[2]));
        }
    }

    private static void doubled() {
        BorderHarp x = new BorderHarp();
        Due.due("the middle one gains 4", x.doubled(), 2);
        x.wire(2, 1, 0);
        Due.due("then 1 and 3 gain 3", x.doubled(), 1);
        x.wire(4, 2, 0);
        Due.due("a slack one gains 4", x.doubled(), 4);
        x.wire(3, 4, 0);
        Due.due("a cut one gains 5", x.doubled(), 3);
        for (int w = 0; w < 5; w++) {
            x.wire(w, 1, 0);
        }
        Due.served(x, "all are", () -> x.doubled(), -1);
        x.posts(2);
        Due.due("two posts hear all", x.doubled(), -1);
        x.wire(0, 3, 0);
        Due.due("but silk", x.doubled(), 0);
        x.posts(3);
        Due.due("a gain of one", x.doubled(), 0);
    }

    private static void doubt() {
        BorderHarp x = new BorderHarp();
        int[][] due = {{50, 50, 2, 3}, {0, 0, 0, 1}, {0, 50, 0, 1}, {50, 0, 1, 1}, {100, 100, 1, 1}, {1, 99, 100, 9901},
            {99, 1, 9900, 9901}, {1, 100, 1, 100}, {100, 1, 1, 1}, {20, 50, 1, 3}, {1, 1, 100, 199}};
        for (int[] r : due) {
            String call = "doubt(" + r[0] + ", " + r[1] + ")";
            Due.served(x, call, () -> x.doubt(r[0], r[1]), 1);
            fraction(x, call, r[2], r[3]);
        }
        int[][] wrong = {{101, 0}, {-1, 0}, {0, 101}, {0, -1}, {Integer.MAX_VALUE, 0}, {0, Integer.MIN_VALUE}};
        for (int[] r : wrong) {
            Due.bad(x, "doubt(" + r[0] + ", " + r[1] + ")", () -> x.doubt(r[0], r[1]));
        }
        fraction(x, "what is refused leaves it", 100, 199);
    }
}
