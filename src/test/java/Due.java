import java.util.function.LongSupplier;

/** What the tests share: counts answers that are not as due, and how a text is typed. */
final class Due {
    private static int asked = 0;
    private static int wrong = 0;

    private Due() {
    }

    static void due(String call, long got, long want) {
        asked++;
        if (got != want) {
            wrong++;
            System.out.println(call + " answered " + got + ", due is " + want);
        }
    }

    /** A call that is refused: its answer, one more of its reason (0 BAD, 1 NO, 2 FULL), nothing else changed. */
    static void refused(BorderHarp x, String call, LongSupplier run, long want, int reason) {
        long[] before = {x.status(0), x.status(1), x.status(2)};
        long digest = x.digest();
        due(call, run.getAsLong(), want);
        for (int what = 0; what < 3; what++) {
            due("status(" + what + ") after " + call, x.status(what), before[what] + (what == reason ? 1 : 0));
        }
        due("digest() after " + call, x.digest(), digest);
    }

    static void bad(BorderHarp x, String call, LongSupplier run) {
        refused(x, call, run, BorderHarp.BAD, 0);
    }

    static void no(BorderHarp x, String call, LongSupplier run) {
        refused(x, call, run, BorderHarp.NO, 1);
    }

    static void full(BorderHarp x, String call, LongSupplier run) {
        refused(x, call, run, BorderHarp.FULL, 2);
    }

    /** A call that is answered: no refusal is counted. */
    static void served(BorderHarp x, String call, LongSupplier run, long want) {
        long refusals = x.status(0) + x.status(1) + x.status(2);
        due(call, run.getAsLong(), want);
        due("refusals after " + call, x.status(0) + x.status(1) + x.status(2), refusals);
    }

    static void type(BorderHarp x, String text) {
        for (int at = 0; at < text.length(); at += 8) {
            String piece = text.substring(at, Math.min(text.length(), at + 8));
            x.type(packed(piece), piece.length());
        }
    }

    static long packed(String piece) {
        long v = 0;
        for (int i = 0; i < piece.length(); i++) {
            v = v << 8 | piece.charAt(i) & 255;
        }
        return v;
    }

    static void end() {
        System.out.println(asked + " answers asked, " + wrong + " not as due");
        if (wrong != 0 || asked == 0) {
            System.exit(1);
        }
    }
}
