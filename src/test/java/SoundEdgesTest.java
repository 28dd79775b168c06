/** The edges of "Terms" that are heard: how far a sound goes, where a note wraps, the first and the last of all. */
public final class SoundEdgesTest {
    /** By KIND, then by strength less 1. */
    private static final int[][] LOUD = {{1, 2, 3}, {3, 4, 5}, {0, 1, 2}, {0, 1, 2}, {0, 0, 0}};

    private SoundEdgesTest() {
    }

    public static void main(String[] args) {
        awayOfAll();
        louderThanAway();
        windIsAsStrengthOne();
        notesWrap();
        notesOfAll();
        minutesApart();
        eachByItself();
        asManyAsThereCanBe();
        cartsAtTheEnd();
        cartsOnward();
        alarmOfAll();
        Due.end();
    }

    private static BorderHarp ofPosts(int n) {
        BorderHarp x = new BorderHarp();
        x.posts(n);
        return x;
    }

    /** "AWAY ..: how many WIRES are between them (0 at both its ends)". */
    private static void awayOfAll() {
        int[] fromPost0 = {0, 1, 2, 3, 4, 5, 6, 7};
        for (int n = 2; n <= 9; n++) {
            BorderHarp x = ofPosts(n);
            for (int w = 0; w < n - 1; w++) {
                Due.due("away(0, " + w + ")", x.away(0, w), fromPost0[w]);
                Due.due("away of the last post, " + w, x.away(n - 1, w), fromPost0[n - 2 - w]);
                Due.due("away of its one end " + w, x.away(w, w), 0);
                Due.due("away of its other end " + w, x.away(w + 1, w), 0);
            }
        }
    }

    /** "At a POST a WIRE is HEARD, if it is LOUDER than that": as loud as it is away is not enough. */
    private static void louderThanAway() {
        int[] away = {3, 2, 1, 0, 0, 1, 2, 3, 4};
        for (int kind = 0; kind < 5; kind++) {
            for (int s = 1; s <= 3; s++) {
                BorderHarp x = ofPosts(9);
                x.wire(3, kind, 4);
                int note = kind == 2 || kind == 3 ? 3 : 4;
                x.pass(30, 3, s - 1);
                for (int post = 0; post < 9; post++) {
                    boolean heard = LOUD[kind][s - 1] > away[post];
                    String what = "kind " + kind + " strength " + s + " at post " + post;
                    Due.due("heard of " + what, x.heard(post, 30), heard ? 1 << note : 0);
                    Due.due("whence of " + what, x.whence(post, note, s) >> 3 & 1, heard ? 1 : 0);
                }
            }
        }
    }

    /** "WINDS ..: in a MINUTE a WIRE sounds as if plucked with strength 1". */
    private static void windIsAsStrengthOne() {
        int[][] due = {{0, 0, 1, 1, 0, 0, 0}, {1, 1, 1, 1, 1, 1, 0}, {0, 0, 0, 0, 0, 0, 0}, {0, 0, 0, 0, 0, 0, 0},
            {0, 0, 0, 0, 0, 0, 0}};
        for (int kind = 0; kind < 5; kind++) {
            BorderHarp x = ofPosts(7);
            x.wire(2, kind, 0);
            x.wind(0, 2);
            for (int post = 0; post < 7; post++) {
                Due.due("wind of kind " + kind + " at " + post, x.heard(post, 0), due[kind][post]);
            }
        }
    }

    /** "TUNE and FROST, by 12 left over", "NOTE one less (of 0: 11)", "but by no FROST". */
    private static void notesWrap() {
        // TUNE, FROST, then the NOTE of each KIND.
        int[][] due = {{11, 0, 11, 11, 10, 10, 11}, {11, 1, 0, 0, 11, 10, 0}, {11, 2, 1, 1, 0, 10, 1},
            {10, 1, 11, 11, 10, 9, 11}, {7, 5, 0, 0, 11, 6, 0}, {6, 5, 11, 11, 10, 5, 11}, {0, 0, 0, 0, 11, 11, 0},
            {0, 5, 5, 5, 4, 11, 5}, {0, 1, 1, 1, 0, 11, 1}, {1, 0, 1, 1, 0, 0, 1}, {11, 5, 4, 4, 3, 10, 4}};
        for (int[] row : due) {
            for (int kind = 0; kind < 5; kind++) {
                BorderHarp x = new BorderHarp();
                x.frost(row[1]);
                x.wire(4, kind, row[0]);
                String what = "note of kind " + kind + " tune " + row[0] + " frost " + row[1];
                Due.due(what, x.sounds(4, 1, 1), row[2 + kind]);
                x.pass(59, 4, 2);
                Due.due("heard: " + what, x.heard(5, 59), kind == 4 ? 0 : 1 << row[2 + kind]);
            }
        }
    }

    /** Every NOTE is one of 0 .. 11: a tune more or a frost more is a note more, until it wraps. */
    private static void notesOfAll() {
        for (int kind = 0; kind < 5; kind++) {
            BorderHarp x = new BorderHarp();
            int note = kind == 2 || kind == 3 ? 11 : 0;
            for (int tune = 0; tune < 12; tune++) {
                x.wire(0, kind, tune);
                int colder = note;
                for (int frost = 0; frost < 6; frost++) {
                    x.frost(frost);
                    Due.due("kind " + kind + " tune " + tune + " frost " + frost, x.sounds(0, 2, 1), colder);
                    colder = kind == 3 ? colder : next(colder);
                }
                note = next(note);
            }
        }
    }

    private static int next(int note) {
        return note == 11 ? 0 : note + 1;
    }

    /** "a MINUTE (0 .. 59)": the first and the last one are apart from those beside them, and from one another. */
    private static void minutesApart() {
        for (int minute : new int[] {0, 1, 29, 58, 59}) {
            BorderHarp x = new BorderHarp();
            x.guard(0, true);
            x.pass(minute, 0, 0);
            BorderHarp y = new BorderHarp();
            y.guard(0, true);
            y.wind(minute, 0);
            for (int other = 0; other < 60; other++) {
                int due = other == minute ? 1 : 0;
                Due.due("a pass in " + minute + " heard in " + other, x.heard(0, other), due);
                Due.due("a pass in " + minute + " alarms in " + other, x.alarm(other), due);
                Due.due("a wind in " + minute + " heard in " + other, y.heard(0, other), due);
                Due.due("a wind in " + minute + " alarms in " + other, y.alarm(other), due);
            }
        }
    }

    /** "of all WIRES that are HEARD there then by PASSES and WINDS, each by itself": many are no louder than one. */
    private static void eachByItself() {
        BorderHarp x = new BorderHarp();
        for (int i = 0; i < 6; i++) {
            x.pass(5, 2, 0);
            x.wind(5, 2);
        }
        int[] due = {0, 0, 1, 1, 0, 0};
        for (int post = 0; post < 6; post++) {
            Due.due("six deer and six winds at post " + post, x.heard(post, 5), due[post]);
        }
        x.wire(2, 2, 0);
        Due.due("all of them on a slack wire", x.heard(2, 5), 0);
    }

    /** Eight passes, and six winds, in one minute are all heard, the last of them too. */
    private static void asManyAsThereCanBe() {
        BorderHarp x = ofPosts(9);
        for (int w = 0; w < 8; w++) {
            x.wire(w, 1, w + 4);
            x.pass(59, w, 2);
        }
        Due.due("eight notes at post 4", x.heard(4, 59), 0xff0);
        Due.due("five notes at post 0", x.heard(0, 59), 0x1f0);
        Due.due("five notes at post 8", x.heard(8, 59), 0xf80);
        for (int w = 2; w < 8; w++) {
            x.wind(0, w);
        }
        Due.due("winds on 2 .. 7 at post 5", x.heard(5, 0), 0xfc0);
        Due.due("winds on 2 .. 7 at post 8", x.heard(8, 0), 0xe00);
        x.undo();
        Due.due("without the last pass", x.heard(4, 59), 0x7f0);
        x.calm();
        Due.due("without winds", x.heard(5, 0), 0);
    }

    /** "3 CART 3 (and of strength 1 on the next WIRE, if there is one)": there is none behind the last WIRE. */
    private static void cartsAtTheEnd() {
        for (int n = 2; n <= 9; n++) {
            BorderHarp x = ofPosts(n);
            for (int w = 0; w < n - 1; w++) {
                x.wire(w, 0, w);
            }
            x.pass(0, n - 2, 3);
            x.pass(1, n - 2, 2);
            for (int post = 0; post < n; post++) {
                Due.due(n + " posts: a cart at the end is as a pair, at " + post, x.heard(post, 0), x.heard(post, 1));
            }
            Due.due(n + " posts: at the last post", x.heard(n - 1, 0), 1 << n - 2);
        }
        BorderHarp x = ofPosts(9);
        x.wire(1, 0, 5);
        x.posts(2);
        x.pass(0, 0, 3);
        Due.due("no wire 1 is left", x.heard(1, 0), 1);
    }

    /** "of strength 1 on the next WIRE": on that side alone, as loud as that WIRE's KIND is by it. */
    private static void cartsOnward() {
        BorderHarp x = ofPosts(9);
        for (int w = 0; w < 8; w++) {
            x.wire(w, 4, w);
        }
        x.wire(7, 0, 7);
        x.pass(0, 6, 3);
        int[] due = {0, 0, 0, 0, 0, 0, 0, 128, 128};
        for (int post = 0; post < 9; post++) {
            Due.due("the next wire alone, at " + post, x.heard(post, 0), due[post]);
        }
        x.wire(7, 4, 7);
        x.wire(5, 1, 5);
        Due.due("not the one before", x.heard(5, 0), 0);
        x.pass(1, 4, 3);
        Due.due("the one behind it, doubled, is loud 3", x.heard(8, 1), 1 << 5);
        Due.due("and on the other side", x.heard(3, 1), 1 << 5);
        Due.due("but no farther", x.heard(2, 1), 0);
    }

    /** "By how many GUARDS some NOTE is HEARD in a MINUTE": none to all nine. */
    private static void alarmOfAll() {
        BorderHarp x = ofPosts(9);
        for (int post = 0; post < 9; post++) {
            x.guard(post, true);
        }
        Due.due("nine guards, nothing sounds", x.alarm(59), 0);
        x.wire(3, 1, 0);
        x.pass(59, 3, 2);
        Due.due("nine guards, all hear", x.alarm(59), 9);
        x.guard(8, false);
        Due.due("eight guards", x.alarm(59), 8);
        x.undo();
        Due.due("nobody passed", x.alarm(59), 0);
        x.wire(3, 4, 0);
        x.wire(4, 0, 0);
        x.pass(59, 3, 3);
        Due.due("by a cart's next wire", x.alarm(59), 2);
    }
}
