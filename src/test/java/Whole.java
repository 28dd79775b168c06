import java.util.function.Supplier;

/** What a call leaves as it was: an object after it beside one that is made alike and has not had it. */
final class Whole {
    static final int BAD = 0;
    static final int NO = 1;
    static final int FULL = 2;

    private static final String[] BORDER = {
        "count(0)", "count(1)", "count(2)", "count(3)", "count(5)", "digest()"
    };
    private static final String[] THE_REST = {
        "status(0)", "status(1)", "status(2)", "count(4)", "part(0)", "part(1)", "read()", "digest() of what is read",
        "from(0)", "digest() of image 0", "from(1)", "digest() of image 1"
    };

    private Whole() {
    }

    private static long[] borderOf(BorderHarp x) {
        return new long[] {x.count(0), x.count(1), x.count(2), x.count(3), x.count(5), x.digest()};
    }

    /** All but the border; uses the object up, as its text is read and it goes on from its images. */
    private static long[] restOf(BorderHarp x) {
        return new long[] {
            x.status(0), x.status(1), x.status(2), x.count(4), x.part(0), x.part(1), x.read(), x.digest(),
            x.from(0), x.digest(), x.from(1), x.digest()
        };
    }

    private static void alike(String call, String[] names, long[] got, long[] want) {
        for (int i = 0; i < names.length; i++) {
            Due.due(names[i] + " after " + call, got[i], want[i]);
        }
    }

    private static BorderHarp called(Supplier<BorderHarp> made, long answer, String name, long... a) {
        BorderHarp x = made.get();
        Due.due(Calls.told(name, a), Calls.answer(x, name, a), answer);
        return x;
    }

    private static void allAlike(String call, BorderHarp x, BorderHarp y, long[] moreStatus) {
        alike(call, BORDER, borderOf(x), borderOf(y));
        long[] want = restOf(y);
        for (int what = 0; what < 3; what++) {
            want[what] += moreStatus[what];
        }
        alike(call, THE_REST, restOf(x), want);
    }

    /** A refused call: its answer, one more of its reason in STATUS, and not a thing else. */
    static void refused(Supplier<BorderHarp> made, int reason, long answer, String name, long... a) {
        BorderHarp x = called(made, answer, name, a);
        long[] more = new long[3];
        more[reason] = 1;
        allAlike(Calls.told(name, a), x, made.get(), more);
    }

    /** A call that asks: its answer, and all is as it was. */
    static void asked(Supplier<BorderHarp> made, long answer, String name, long... a) {
        BorderHarp x = called(made, answer, name, a);
        allAlike(Calls.told(name, a), x, made.get(), new long[3]);
    }

    /** A call that changes the border alone: STATUS, THE TEXT, THE FRACTION and IMAGES stay. */
    static void changedBorder(Supplier<BorderHarp> made, long answer, String name, long... a) {
        BorderHarp x = called(made, answer, name, a);
        BorderHarp y = made.get();
        Due.due("the border is another by " + Calls.told(name, a), x.digest() != y.digest() ? 1 : 0, 1);
        alike(Calls.told(name, a), THE_REST, restOf(x), restOf(y));
    }

    /** A call that changes THE FRACTION alone. */
    static void changedFraction(Supplier<BorderHarp> made, long above, long below, long answer, String name, long... a) {
        BorderHarp x = called(made, answer, name, a);
        Due.due("part(0) after " + Calls.told(name, a), x.part(0), above);
        Due.due("part(1) after " + Calls.told(name, a), x.part(1), below);
        BorderHarp y = made.get();
        x.doubt(1, 99);
        y.doubt(1, 99);
        allAlike(Calls.told(name, a), x, y, new long[3]);
    }
}
