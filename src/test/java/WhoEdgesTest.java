/** The edges of what is found out: none, the first of like ones, the fewest and the most posts. */
public final class WhoEdgesTest {
    private WhoEdgesTest() {
    }

    public static void main(String[] args) {
        whichOfAll();
        whichOfTwoPosts();
        coverOfTwoAndNine();
        coverOfLikeOnes();
        clashesOfFew();
        clashesThatMeet();
        clashesThatWrap();
        retuneOfFew();
        retuneOfMany();
        retuneByAnyFrost();
        retuneOfTheFirst();
        retuneOfSilkApart();
        askedAgain();
        slipAtTheEnds();
        slipOfLikeOnes();
        slipNearWind();
        lotsOfAll();
        surestOfLikeOnes();
        whenceAtTheEnds();
        doubledAtTheEdge();
        doubtAtTheEnds();
        Due.end();
    }

    private static BorderHarp ofKind(int posts, int kind) {
        BorderHarp x = new BorderHarp();
        x.posts(posts);
        for (int w = 0; w < posts - 1; w++) {
            x.wire(w, kind, 0);
        }
        return x;
    }

    private static void fraction(BorderHarp x, String what, long above, long below) {
        Due.due(what + ": part(0)", x.part(0), above);
        Due.due(what + ": part(1)", x.part(1), below);
    }

    /** "how many (i = NONE), the i-th (0 on). -5: not so many.": all 32 pairs, rising. */
    private static void whichOfAll() {
        BorderHarp x = ofKind(9, 4);
        Due.due("which of all", x.which(0, 0, 8, 0, -1), 32);
        for (int i = 0; i < 32; i++) {
            Due.due("the " + i + "-th of all", x.which(8, 0, 0, 0, i), 10 * (i / 4) + i % 4);
        }
        for (int i : new int[] {32, 33, 1000, Integer.MAX_VALUE}) {
            Due.due("the " + i + "-th of 32", x.which(0, 0, 8, 0, i), -5);
        }
        Due.due("which of none", x.which(0, 1, 8, 0, -1), 0);
        Due.due("the first of none", x.which(0, 1, 8, 0, 0), -5);
        Due.due("nothing was refused", x.status(0), 0);
    }

    /** "of which POST a heard just a set of NOTES, POST b just another one": not one more, not one less. */
    private static void whichOfTwoPosts() {
        BorderHarp x = ofKind(2, 0);
        Due.due("which at both", x.which(0, 1, 1, 1, -1), 4);
        Due.due("the last at both", x.which(0, 1, 1, 1, 3), 3);
        Due.due("one more at both", x.which(0, 1, 1, 1, 4), -5);
        Due.due("just this set: one note more", x.which(0, 3, 1, 1, -1), 0);
        Due.due("just this set: none", x.which(0, 0, 1, 1, -1), 0);
        x.wire(0, 3, 0);
        Due.due("silk is not heard by a deer", x.which(0, 0, 1, 0, 0), 0);
        Due.due("just by a deer", x.which(0, 0, 1, 0, -1), 1);
        Due.due("by a man, a pair, a cart", x.which(0, 2048, 1, 2048, -1), 3);
    }

    /** "COVER k (1 .. 3)": with two POSTS 3 can't be, with nine they may. */
    private static void coverOfTwoAndNine() {
        BorderHarp x = ofKind(2, 0);
        Due.due("two posts, k 1", x.cover(1), 1);
        Due.due("two posts, k 2", x.cover(2), 3);
        Due.due("two posts, k 3", x.cover(3), -1);
        x = ofKind(3, 1);
        Due.due("three posts, k 3", x.cover(3), 7);
        x = ofKind(9, 1);
        // Wire 0 is heard at posts 0 .. 3, wire 7 at posts 5 .. 8, the others at six posts or less.
        Due.due("nine posts, k 1", x.cover(1), 1 | 1 << 5);
        Due.due("nine posts, k 2", x.cover(2), 3 | 3 << 5);
        Due.due("nine posts, k 3", x.cover(3), 7 | 7 << 5);
        x.wire(0, 4, 0);
        x.wire(7, 2, 0);
        Due.due("one that no deer sounds", x.cover(1), -1);
        x.wire(7, 4, 0);
        // Wire 1 is heard at posts 0 .. 4, wire 6 at posts 4 .. 8.
        Due.due("both ends cut", x.cover(1), 1 << 4);
        x = ofKind(9, 4);
        for (int k = 1; k <= 3; k++) {
            Due.due("all cut, k " + k, x.cover(k), 0);
        }
    }

    /** "of like ones the least bits". */
    private static void coverOfLikeOnes() {
        BorderHarp x = ofKind(9, 4);
        x.wire(7, 0, 0);
        Due.due("the last wire alone", x.cover(1), 1 << 7);
        Due.due("its both ends", x.cover(2), 3 << 7);
        Due.due("it has no third", x.cover(3), -1);
        x.wire(0, 0, 0);
        Due.due("the first and the last", x.cover(1), 1 | 1 << 7);
        x.wire(4, 1, 0);
        Due.due("and one between that the others cover", x.cover(1), 1 | 1 << 7);
        x.wire(4, 2, 0);
        Due.due("a slack one is not cut", x.cover(1), -1);
        x.wire(4, 3, 0);
        Due.due("one of silk is not cut", x.cover(1), -1);
    }

    /** "pairs of WIRES with a like NOTE (not CUT)": none to all 28. */
    private static void clashesOfFew() {
        for (int kind = 0; kind < 5; kind++) {
            Due.due("one wire of kind " + kind, ofKind(2, kind).clashes(), 0);
            Due.due("two wires of kind " + kind, ofKind(3, kind).clashes(), kind == 4 ? 0 : 1);
        }
        Due.due("eight doubled ones all meet", ofKind(9, 1).clashes(), 28);
        Due.due("eight cut ones never do", ofKind(9, 4).clashes(), 0);
        Due.due("eight of silk beside one another", ofKind(9, 3).clashes(), 7);
    }

    /** "both HEARD at some POST, if plucked with strength 2": the farthest apart that meet, and one farther. */
    private static void clashesThatMeet() {
        // Two wires of these kinds meet if they are this far apart, and not if they are one farther.
        int[][] farthest = {{0, 0, 3}, {0, 1, 5}, {1, 1, 7}, {0, 2, 2}, {1, 2, 4}, {2, 2, 1}};
        for (int[] row : farthest) {
            for (int apart = 1; apart < 8; apart++) {
                BorderHarp x = ofKind(9, 4);
                x.wire(0, row[0], row[0] == 2 ? 1 : 0);
                x.wire(apart, row[1], row[1] == 2 ? 1 : 0);
                String what = "kinds " + row[0] + " and " + row[1] + ", " + apart + " apart";
                Due.due("clashes of " + what, x.clashes(), apart <= row[2] ? 1 : 0);
                Due.due("retune of " + what, x.retune(), apart <= row[2] ? 1 : 0);
            }
        }
    }

    /** "with a like NOTE .., by FROST as now": notes that are alike as one has wrapped. */
    private static void clashesThatWrap() {
        BorderHarp x = new BorderHarp();
        x.posts(3);
        x.wire(0, 0, 11);
        x.wire(1, 3, 1);
        int[] due = {0, 1, 0, 0, 0, 0};
        for (int frost = 0; frost < 6; frost++) {
            x.frost(frost);
            Due.due("11 and frost " + frost + " beside silk of note 0", x.clashes(), due[frost]);
        }
        x.wire(1, 2, 0);
        for (int frost = 0; frost < 6; frost++) {
            x.frost(frost);
            Due.due("11 beside a slack one of 0, frost " + frost, x.clashes(), 1);
        }
        x.wire(1, 4, 11);
        Due.due("11 beside a cut one of 11", x.clashes(), 0);
    }

    /** "RETUNE: the fewest WIRES": none, where there is nothing to tune anew. */
    private static void retuneOfFew() {
        for (int kind = 0; kind < 5; kind++) {
            Due.due("one wire of kind " + kind, ofKind(2, kind).retune(), 0);
            Due.due("two wires of kind " + kind, ofKind(3, kind).retune(), kind == 4 ? 0 : 1);
        }
        Due.due("all cut", ofKind(9, 4).retune(), 0);
    }

    /** "the fewest WIRES (bits, least bits of like ones)"; "none". */
    private static void retuneOfMany() {
        BorderHarp x = ofKind(9, 1);
        Due.due("eight that all meet, all alike", x.retune(), 127);
        x.wire(0, 1, 1);
        Due.due("the first one is apart", x.retune(), 126);
        x.wire(0, 4, 0);
        Due.due("the first one is cut", x.retune(), 126);
        x = ofKind(9, 1);
        x.wire(4, 3, 0);
        Due.due("silk among seven that all meet", x.retune(), -1);
        x.wire(0, 4, 0);
        // The silk has note 11, to which tune 0 comes by no frost: five of six that are alike, not the silk.
        Due.due("silk among six that all meet", x.retune(), 0b01101110);
        x.wire(7, 1, 6);
        // Tune 6 comes to note 11 by frost 5, so it must go, and one of the others may stay.
        Due.due("the one whose frosts reach the silk's note, too", x.retune(), 0b10101110);
    }

    /** "so that there are no CLASHES by any FROST 0 .. 5": at the ends of both, and where it wraps. */
    private static void retuneByAnyFrost() {
        for (int silk = 0; silk < 12; silk++) {
            for (int tune = 0; tune < 12; tune++) {
                BorderHarp x = new BorderHarp();
                x.posts(3);
                x.wire(0, 3, silk);
                x.wire(1, 0, tune);
                int clashes = 0;
                for (int frost = 0; frost < 6; frost++) {
                    x.frost(frost);
                    clashes += x.clashes();
                }
                Due.due("silk " + silk + " beside " + tune, x.retune(), clashes == 0 ? 0 : 1);
                Due.due("silk " + silk + " beside " + tune + " clashes once at most", clashes <= 1 ? 1 : 0, 1);
            }
        }
    }

    /** The first wire has no note left; or it has some, as silk far off does not meet it. */
    private static void retuneOfTheFirst() {
        BorderHarp x = ofKind(9, 1);
        x.wire(3, 3, 9);
        x.wire(4, 3, 0);
        x.wire(6, 4, 0);
        x.wire(7, 4, 0);
        x.wire(2, 1, 1);
        x.wire(5, 1, 2);
        // Silk of the notes 8 and 11 leaves the tunes 0, 1, 2, which others have; if one of silk goes on, there are more.
        Due.due("the first wire and one of silk", x.retune(), 0b1001);
        x = ofKind(9, 4);
        x.wire(0, 0, 0);
        x.wire(1, 3, 0);
        x.wire(2, 0, 0);
        x.wire(7, 3, 6);
        // Silk of note 11 leaves the tunes 0 .. 5; silk of note 5 would leave none of them, were it heard near by.
        Due.due("the first wire alone", x.retune(), 1);
    }

    /** The first wire is doubled between silk that does not meet: it is bound by each, they are not by one another. */
    private static void retuneOfSilkApart() {
        // Posts, the silk's tunes (-1: cut), the tune of wire 0, what is due.
        // By silk of the notes 7 and 1 no tune is left to wire 0; by silk of the notes 2 and 9 it has tune 3.
        int[][] due = {{5, 8, -1, 2, 9, 0b1000}, {5, 2, -1, 8, 9, 0b0010}, {5, 2, -1, 8, 7, 0b1000}, {5, 3, -1, 10, 0, 1}};
        for (int[] row : due) {
            BorderHarp x = ofKind(row[0], 4);
            x.wire(0, 1, row[4]);
            for (int w = 1; w < 4; w++) {
                x.wire(w, row[w] < 0 ? 4 : 3, Math.max(0, row[w]));
            }
            Due.due("silk " + row[1] + " and " + row[3] + " beside doubled " + row[4], x.retune(), row[5]);
        }
    }

    /** An answer is of the border as it is, whatever was asked of another one before. */
    private static void askedAgain() {
        BorderHarp x = ofKind(9, 0);
        Due.due("nine posts: retune()", x.retune(), 0b1110111);
        Due.due("nine posts: cover(1)", x.cover(1), 0b10101010);
        x.posts(2);
        Due.due("then two: retune()", x.retune(), 0);
        Due.due("then two: cover(1)", x.cover(1), 1);
        slips(x, "then two", 0, 0);
        x.wire(0, 4, 0);
        slips(x, "then cut", -1, -1);
        Due.due("then cut: cover(1)", x.cover(1), 0);
        x.posts(9);
        x.retune();
        for (int w = 0; w < 8; w++) {
            x.wire(w, 2, w % 2);
        }
        Due.due("then slack ones, that meet beside one another alone", x.retune(), 0);
    }

    private static void slips(BorderHarp x, String what, int guards, int place) {
        Due.due(what + ": slip(0)", x.slip(0), guards);
        Due.due(what + ": slip(1)", x.slip(1), place);
    }

    /** "100 MINUTE and WIRE", "none: all are CUT": the first and the last that can be. */
    private static void slipAtTheEnds() {
        BorderHarp x = ofKind(9, 4);
        slips(x, "all cut", -1, -1);
        x.wire(7, 0, 0);
        slips(x, "the last wire alone", 0, 7);
        for (int post = 0; post < 9; post++) {
            x.guard(post, true);
        }
        slips(x, "heard at the posts 6, 7, 8", 3, 7);
        x.wind(59, 7);
        slips(x, "the last minute and wire", 1, 5907);
        x.wind(58, 7);
        slips(x, "the minute ahead of it", 1, 5807);
        x.wind(0, 7);
        slips(x, "the first minute", 1, 7);
        x.wire(7, 4, 0);
        slips(x, "all cut again", -1, -1);
        x = ofKind(9, 1);
        for (int post = 0; post < 9; post++) {
            x.guard(post, true);
        }
        slips(x, "wire 0 is heard at the posts 0 .. 4", 5, 0);
    }

    /** "of like ones the first (MINUTE, then WIRE ..)". */
    private static void slipOfLikeOnes() {
        BorderHarp x = ofKind(5, 0);
        x.guard(0, true);
        x.guard(4, true);
        // Each wire is heard at one of both ends.
        slips(x, "all alike", 1, 0);
        x.wind(20, 3);
        x.wind(20, 0);
        slips(x, "two wires in one minute", 0, 2000);
        x.wind(19, 3);
        slips(x, "a minute before a wire", 0, 1903);
        x.wire(0, 4, 0);
        slips(x, "the first one is cut", 0, 1903);
        x.calm();
        slips(x, "calm", 1, 1);
    }

    /** "but not if by a WIND it is HEARD there in that MINUTE, too": there, then, and that WIRE. */
    private static void slipNearWind() {
        BorderHarp x = ofKind(2, 0);
        x.guard(0, true);
        x.wind(30, 0);
        slips(x, "hidden", 0, 3000);
        x.wire(0, 3, 0);
        slips(x, "wind on silk is not heard", 1, 0);
        x = ofKind(9, 4);
        x.wire(4, 1, 0);
        for (int post = 0; post < 9; post++) {
            x.guard(post, true);
        }
        // A man on a doubled wire is heard 3 wires away, wind on it 2.
        slips(x, "eight posts hear him", 8, 4);
        x.wind(1, 4);
        slips(x, "the two farthest hear him alone", 2, 104);
        x.guard(1, false);
        x.guard(8, false);
        slips(x, "they were guards no more", 0, 104);
        x = ofKind(3, 0);
        x.guard(1, true);
        x.wind(5, 1);
        // Wind on wire 1 is heard at post 1 by the note of wire 0, but it is not wire 0 that is heard.
        slips(x, "wind on another wire hides nothing", 0, 501);
        x.wire(1, 4, 0);
        slips(x, "nor does wind on a cut one", 1, 0);
    }

    /** "LOT k (1 to n)": each k of nine posts, two of which hear; "lowest terms, below above 0". */
    private static void lotsOfAll() {
        int[][] due = {{7, 9}, {7, 12}, {5, 12}, {5, 18}, {1, 6}, {1, 12}, {1, 36}, {0, 1}, {0, 1}};
        BorderHarp x = ofKind(9, 0);
        for (int k = 1; k <= 9; k++) {
            for (int w : new int[] {0, 7}) {
                Due.due("lot(" + k + ", " + w + ", 0)", x.lot(k, w, 0), 1);
                fraction(x, k + " of nine", due[k - 1][0], due[k - 1][1]);
            }
        }
        x.wire(3, 1, 0);
        for (int k = 1; k <= 9; k++) {
            x.lot(k, 3, 2);
            fraction(x, "all nine hear, k " + k, 0, 1);
        }
        x.wire(3, 4, 0);
        for (int k = 1; k <= 9; k++) {
            x.lot(k, 3, 2);
            fraction(x, "none hears, k " + k, 1, 1);
        }
        x = ofKind(2, 2);
        x.lot(2, 0, 0);
        fraction(x, "both of two, a deer on a slack one", 1, 1);
        x.lot(1, 0, 1);
        fraction(x, "one of two, a man on it", 0, 1);
    }

    /** "SUREST: the WIRE by which that is greatest, not CUT ones, of like ones the least; none". */
    private static void surestOfLikeOnes() {
        BorderHarp x = ofKind(9, 0);
        for (int step = 0; step < 4; step++) {
            Due.due("both ends are alike, step " + step, x.surest(1, step), 0);
            Due.due("none can be unheard, step " + step, x.surest(9, step), 0);
            fraction(x, "by nine guards, step " + step, 0, 1);
        }
        x.wire(0, 4, 0);
        Due.due("a cut one does not count, deer", x.surest(1, 0), 1);
        fraction(x, "a deer at 1", 7, 9);
        Due.due("a cut one does not count, man", x.surest(1, 1), 7);
        fraction(x, "a man at 7", 2, 3);
        Due.due("cut, and a chance of 0", x.surest(9, 1), 1);
        // A slack wire 0 is heard at 3 posts; that a doubled wire 1 sounds, too, and at 5 posts, does not count.
        x.wire(0, 2, 0);
        x.wire(1, 1, 0);
        Due.due("a cart's own wire alone", x.surest(1, 3), 0);
        fraction(x, "a cart on a slack one", 2, 3);
        x.lot(1, 0, 3);
        fraction(x, "its lot", 2, 3);
        x = ofKind(9, 4);
        x.doubt(50, 50);
        Due.due("all cut", x.surest(9, 3), -1);
        fraction(x, "it stays", 2, 3);
        x.wire(7, 1, 0);
        Due.due("the last one is left, its chance is 0", x.surest(9, 3), 7);
        fraction(x, "now it is told", 0, 1);
    }

    /** "WIRES (bits) of which a NOTE may come that is HEARD at a POST, plucked with strength s (1 .. 3)". */
    private static void whenceAtTheEnds() {
        BorderHarp x = ofKind(9, 1);
        Due.due("post 0, strength 3", x.whence(0, 0, 3), 31);
        Due.due("post 8, strength 3", x.whence(8, 0, 3), 31 << 3);
        Due.due("post 4, strength 3", x.whence(4, 0, 3), 255);
        Due.due("post 0, strength 1", x.whence(0, 0, 1), 7);
        Due.due("another note", x.whence(4, 11, 3), 0);
        x.wire(7, 2, 0);
        Due.due("note 11, strength 1 on a slack one", x.whence(8, 11, 1), 0);
        Due.due("note 11, strength 2 on a slack one", x.whence(8, 11, 2), 128);
        Due.due("all cut", ofKind(9, 4).whence(4, 0, 3), 0);
        Due.due("two posts", ofKind(2, 0).whence(1, 0, 1), 1);
    }

    /** "if that is more than now, of like ones the least; none". */
    private static void doubledAtTheEdge() {
        Due.due("two posts hear a plain one already", ofKind(2, 0).doubled(), -1);
        Due.due("two posts, doubled", ofKind(2, 1).doubled(), -1);
        Due.due("two posts, slack", ofKind(2, 2).doubled(), 0);
        Due.due("two posts, cut", ofKind(2, 4).doubled(), 0);
        Due.due("three posts, one more each", ofKind(3, 0).doubled(), 0);
        BorderHarp x = ofKind(3, 1);
        x.wire(1, 0, 0);
        Due.due("one more by the last one", x.doubled(), 1);
        // A plain one gains 4 where nothing is in its way: from wire 2 to wire n less 4.
        Due.due("nine posts, plain", ofKind(9, 0).doubled(), 2);
        Due.due("nine posts, doubled", ofKind(9, 1).doubled(), -1);
        x = ofKind(9, 1);
        x.wire(7, 3, 0);
        x.wire(0, 0, 0);
        Due.due("4 by the last one, 2 by the first", x.doubled(), 7);
        x.wire(0, 3, 0);
        Due.due("4 by both", x.doubled(), 0);
    }

    /** "in p of 100 MINUTES .. q of 100 (0 .. 100 each)", "(0 by 1, if it never sounds)". */
    private static void doubtAtTheEnds() {
        int[][] due = {{0, 0, 0, 1}, {0, 1, 0, 1}, {0, 100, 0, 1}, {1, 0, 1, 1}, {100, 0, 1, 1}, {100, 100, 1, 1},
            {1, 100, 1, 100}, {99, 100, 99, 100}, {100, 99, 1, 1}, {99, 99, 100, 101}, {1, 1, 100, 199}};
        for (int[] r : due) {
            BorderHarp x = new BorderHarp();
            x.lot(1, 0, 0);
            Due.due("doubt(" + r[0] + ", " + r[1] + ")", x.doubt(r[0], r[1]), 1);
            fraction(x, "doubt(" + r[0] + ", " + r[1] + ")", r[2], r[3]);
        }
    }
}
