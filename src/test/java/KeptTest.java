/**
 * What a call that is served leaves as it was: one that asks leaves all; a border that is told anew leaves IMAGES,
 * THE TEXT, THE FRACTION and STATUS; a chance is THE FRACTION and changes nothing else.
 */
public final class KeptTest {
    private KeptTest() {
    }

    public static void main(String[] args) {
        asking();
        notFound();
        changesOfBorder();
        chances();
        noChance();
        imagesApart();
        imageToldAnew();
        imageOfTheMost();
        readOfTheMost();
        objectsApart();
        Due.end();
    }

    private static BorderHarp rich() {
        return Made.rich(6);
    }

    /** A call that just asks changes nothing. */
    private static void asking() {
        Whole.asked(KeptTest::rich, 5, "sounds", 0, 3, 0);
        Whole.asked(KeptTest::rich, 10, "sounds", 4, 1, 1);
        Whole.asked(KeptTest::rich, 4, "away", 0, 4);
        Whole.asked(KeptTest::rich, 1 << 10 | 1 << 3, "heard", 1, 10);
        Whole.asked(KeptTest::rich, 2, "alarm", 10);
        Whole.asked(KeptTest::rich, 2, "which", 0, 1 << 10, 5, 0, -1);
        Whole.asked(KeptTest::rich, 1, "which", 0, 1 << 10, 5, 0, 1);
        Whole.asked(KeptTest::rich, -1, "cover", 1);
        // The three plain wires, and the doubled one with the silk at post 4.
        Whole.asked(KeptTest::rich, 4, "clashes");
        Whole.asked(KeptTest::rich, 7, "retune");
        Whole.asked(KeptTest::rich, 0, "slip", 0);
        Whole.asked(KeptTest::rich, 2, "slip", 1);
        Whole.asked(KeptTest::rich, 1, "whence", 1, 10, 1);
        Whole.asked(KeptTest::rich, 2, "doubled");
        Whole.asked(KeptTest::rich, 1, "part", 0);
        Whole.asked(KeptTest::rich, 3, "part", 1);
        Whole.asked(KeptTest::rich, 1, "status", 0);
        Whole.asked(KeptTest::rich, 2, "status", 1);
        Whole.asked(KeptTest::rich, 3, "status", 2);
        Whole.asked(KeptTest::rich, Made.TEXT.length(), "count", 4);
        Whole.asked(KeptTest::rich, rich().digest(), "digest");
    }

    /** NONE, "-5: not so many" and "-10 less the FAULT: all stays" are no refusals. */
    private static void notFound() {
        Whole.asked(KeptTest::rich, -5, "which", 0, 1 << 10, 5, 0, 2);
        Whole.asked(KeptTest::rich, -5, "which", 0, 4095, 5, 4095, 0);
        Whole.asked(KeptTest::rich, -1, "cover", 3);
        Whole.asked(KeptTest::allCut, -1, "slip", 0);
        Whole.asked(KeptTest::allCut, -1, "slip", 1);
        Whole.asked(KeptTest::allCut, -1, "surest", 1, 0);
        Whole.asked(KeptTest::untunable, -1, "retune");
        Whole.asked(KeptTest::allDoubled, -1, "doubled");
        Whole.asked(() -> withText(""), -10, "read");
        Whole.asked(() -> withText("posts 1;"), -16, "read");
        Whole.asked(() -> withText("posts 3;frost 5;guard 1;pass 1 1 1"), -44, "read");
        Whole.asked(() -> withText("posts 3;frost 5;guard 1;guard 1;"), -40, "read");
    }

    private static BorderHarp allCut() {
        return allOf(rich(), 4);
    }

    private static BorderHarp allDoubled() {
        return allOf(rich(), 1);
    }

    private static BorderHarp untunable() {
        BorderHarp x = allOf(Made.rich(9), 1);
        x.wire(4, 3, 0);
        return x;
    }

    private static BorderHarp allOf(BorderHarp x, int kind) {
        for (int w = 0; w < x.count(0) - 1; w++) {
            x.wire(w, kind, w);
        }
        return x;
    }

    private static BorderHarp withText(String text) {
        BorderHarp x = rich();
        x.clear();
        Due.type(x, text);
        return x;
    }

    /** "takes the place of all but IMAGES, THE TEXT, THE FRACTION, STATUS"; no call but their own changes these. */
    private static void changesOfBorder() {
        Whole.changedBorder(KeptTest::rich, 6, "posts", 6);
        Whole.changedBorder(KeptTest::rich, 6, "posts", 2);
        Whole.changedBorder(KeptTest::rich, 6, "posts", 9);
        Whole.changedBorder(KeptTest::rich, 3 * 12 + 11, "wire", 4, 4, 0);
        Whole.changedBorder(KeptTest::rich, 3, "frost", 5);
        Whole.changedBorder(KeptTest::rich, 1, "guard", 1, 1);
        Whole.changedBorder(KeptTest::rich, 2, "wind", 59, 4);
        Whole.changedBorder(KeptTest::rich, 2, "calm");
        Whole.changedBorder(KeptTest::rich, 3, "pass", 59, 4, 3);
        Whole.changedBorder(KeptTest::rich, 2, "undo");
        Whole.changedBorder(KeptTest::rich, 7, "read");
        Whole.changedBorder(KeptTest::rich, 1, "from", 0);
        Whole.changedBorder(KeptTest::rich, 1, "from", 1);
    }

    /** "LOT is THE FRACTION", "its LOT is THE FRACTION", "DOUBT is THE FRACTION": nothing else is another. */
    private static void chances() {
        Whole.changedFraction(KeptTest::rich, 1, 15, 1, "lot", 2, 0, 0);
        Whole.changedFraction(KeptTest::rich, 2, 5, 1, "lot", 2, 2, 0);
        Whole.changedFraction(KeptTest::rich, 1, 1, 4, "surest", 3, 0);
        Whole.changedFraction(KeptTest::rich, 0, 1, 0, "surest", 6, 1);
        Whole.changedFraction(KeptTest::rich, 2, 3, 1, "doubt", 50, 50);
        Whole.changedFraction(KeptTest::rich, 0, 1, 1, "doubt", 0, 0);
    }

    /** "SUREST; its LOT is THE FRACTION. NONE.": where there is no such WIRE there is no LOT, and it stays. */
    private static void noChance() {
        for (int step = 0; step < 4; step++) {
            for (int k : new int[] {1, 6}) {
                Whole.asked(KeptTest::allCut, -1, "surest", k, step);
            }
        }
    }

    /** "IMAGES 0, 1 keep all but them, THE TEXT, THE FRACTION and STATUS". */
    private static void imagesApart() {
        for (int i = 0; i < 2; i++) {
            BorderHarp x = rich();
            long now = x.digest();
            x.from(1 - i);
            long other = x.digest();
            x = rich();
            Due.due("image(" + i + ")", x.image(i), 1);
            Due.due("the border stays by image(" + i + ")", x.digest(), now);
            x.posts(2);
            x.from(1 - i);
            Due.due("the other image stays by image(" + i + ")", x.digest(), other);
            x.from(i);
            Due.due("image " + i, x.digest(), now);
            x.undo();
            x.posts(2);
            x.from(i);
            Due.due("image " + i + " once more", x.digest(), now);
        }
    }

    /** An IMAGE keeps what was when it was kept, and takes the place of the one before. */
    private static void imageToldAnew() {
        BorderHarp x = new BorderHarp();
        x.image(0);
        x.posts(9);
        x.wire(7, 4, 11);
        x.guard(8, true);
        long nine = x.digest();
        Due.due("image(0) again", x.image(0), 1);
        x.posts(2);
        Due.due("from(0) of nine posts", x.from(0), 1);
        Due.due("as when kept", x.digest(), nine);
        Due.due("its last wire", x.wire(7, 4, 11), 59);
        Due.due("its last guard", x.guard(8, true), -3);
        x.posts(2);
        long two = x.digest();
        x.image(1);
        x.from(0);
        x.from(1);
        Due.due("from(1) of two posts", x.digest(), two);
        Due.bad(x, "a wire of the other image", () -> x.wire(1, 0, 0));
        x.posts(9);
        Due.due("a wire of the other image is as at first", x.wire(7, 0, 0), 0);
    }

    /** Nine posts, six winds, eight passes; by another number each one of them is another. */
    private static BorderHarp most(int number) {
        BorderHarp x = new BorderHarp();
        x.posts(9);
        for (int w = 0; w < 8; w++) {
            x.wire(w, (w + number) % 5, (w + number) % 12);
            x.pass(10 + w + number, (w + number) % 8, (w + number) % 4);
        }
        for (int i = 0; i < 6; i++) {
            x.wind(50 - i - number, (i + number) % 8);
        }
        x.frost(number);
        x.guard(number, true);
        return x;
    }

    /** "IMAGES 0, 1 keep all": to the last wind and the last pass. */
    private static void imageOfTheMost() {
        for (int i = 0; i < 2; i++) {
            BorderHarp x = most(1);
            x.image(i);
            tellAnew(x, 2);
            Due.due("another border after image(" + i + ")", x.digest(), most(2).digest());
            x.from(i);
            Due.due("the most by from(" + i + ")", x.digest(), most(1).digest());
        }
    }

    private static void tellAnew(BorderHarp x, int number) {
        Due.type(x, textOfMost(number));
        Due.due("read() of the most", x.read(), 1 + 6 + 8 + 2);
        for (int w = 0; w < 8; w++) {
            x.wire(w, (w + number) % 5, (w + number) % 12);
        }
        x.clear();
    }

    /** All but the wires, for which 200 bytes are too few. */
    private static String textOfMost(int number) {
        String text = "posts 9;frost " + number + ";guard " + number + ";";
        for (int w = 0; w < 8; w++) {
            text += "pass " + (10 + w + number) + " " + (w + number) % 8 + " " + (w + number) % 4 + ";";
        }
        for (int i = 0; i < 6; i++) {
            text += "wind " + (50 - i - number) + " " + (i + number) % 8 + ";";
        }
        return text;
    }

    /** "A BORDER that is read takes the place of all": to the last wind, the last pass and the last wire. */
    private static void readOfTheMost() {
        BorderHarp x = most(3);
        tellAnew(x, 1);
        Due.due("passes and winds by a text", x.digest(), most(1).digest());
        String wires = "posts 9;";
        for (int w = 0; w < 8; w++) {
            wires += "wire " + w + " " + (w + 2) % 5 + " " + (11 - w) + ";";
        }
        Due.type(x, wires);
        Due.due("read() of all wires", x.read(), 9);
        for (int w = 0; w < 8; w++) {
            Due.due("wire " + w + " by a text", x.wire(w, 0, 0), 12 * ((w + 2) % 5) + 11 - w);
        }
    }

    /** No two objects share anything. */
    private static void objectsApart() {
        BorderHarp x = new BorderHarp();
        long fresh = x.digest();
        BorderHarp y = Made.full(9);
        y.cover(1);
        y.retune();
        y.slip(0);
        y.lot(1, 0, 0);
        Due.due("digest() beside another one", x.digest(), fresh);
        Due.due("status(2) beside another one", x.status(2), 0);
        Due.due("read() beside another one", x.read(), -10);
        Due.due("from(1) beside another one", x.from(1), -3);
        Due.due("a new one's digest()", new BorderHarp().digest(), fresh);
    }
}
