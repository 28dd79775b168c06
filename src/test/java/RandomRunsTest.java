import java.util.ArrayList;
import java.util.List;
import java.util.Random;

/** Runs of calls drawn by fixed seeds: the class answers as the plain telling of the document does. */
public final class RandomRunsTest {
    private static final int RUNS = 600;
    private static final int CALLS = 300;
    // What an object answers after so many calls is free.
    private static final int MOST_CALLS = 512;
    private static final String[] NAMES = {
        "posts", "wire", "wire", "wire", "wire", "wire", "wire", "frost", "guard", "guard", "guard", "wind", "wind",
        "calm", "pass", "pass", "pass", "undo", "type", "clear", "read", "sounds", "away", "heard", "heard", "heard",
        "alarm", "which", "which", "cover", "clashes", "retune", "slip", "lot", "surest", "whence", "doubled", "doubt",
        "part", "part", "image", "from", "status", "count", "digest", "border"
    };
    private static final String[] PIECES = {
        "posts ", "wire ", "frost ", "guard ", "wind ", "pass ", ";", ";", " ", "0", "1", "2 ", "7 ", "11 ", "59 ", "60 ",
        "123 ", "wir", "P", "\t", "(", "" + (char) 200
    };

    private final Random random;
    private final BorderHarp harp = new BorderHarp();
    private final PlainHarp plain = new PlainHarp();
    private final int run;
    private final int mostPosts;
    private int called = 0;

    private RandomRunsTest(int run) {
        this.run = run;
        random = new Random(run);
        // The plain way to retune is slow on long borders.
        mostPosts = run % 20 == 0 ? 9 : 6;
    }

    public static void main(String[] args) {
        for (int run = 0; run < RUNS; run++) {
            new RandomRunsTest(run).calls();
        }
        Due.end();
    }

    private void calls() {
        for (int i = 0; i < CALLS; i++) {
            String name = NAMES[random.nextInt(NAMES.length)];
            if (name.equals("border")) {
                typeBorder();
            } else if (name.equals("type") && random.nextInt(3) != 0) {
                typePiece(PIECES[random.nextInt(PIECES.length)]);
            } else {
                compare(name, arguments(name));
            }
        }
        compare("digest");
    }

    private void compare(String name, long... a) {
        if (called < MOST_CALLS) {
            called++;
            String call = "run " + run + ": " + Calls.told(name, a);
            Due.due(call, Calls.answer(harp, name, a), plain.call(name, a));
        }
    }

    /** Mostly a number that is as told, now and then one that is not. */
    private int draw(int least, int most) {
        switch (random.nextInt(60)) {
            case 0: return least - 1;
            case 1: return most + 1;
            case 2: return random.nextInt();
            default: return least + random.nextInt(most - least + 1);
        }
    }

    private int drawPost() {
        return draw(0, plain.posts - 1);
    }

    private int drawWire() {
        return draw(0, plain.posts - 2);
    }

    private int drawMinute() {
        return random.nextInt(4) == 0 ? draw(0, 59) : random.nextInt(3);
    }

    /** A set that may well be heard: what one hears by a step on some wire. */
    private long drawNotes(int post, int w, int step) {
        if (random.nextInt(5) == 0) {
            return draw(0, 4095);
        }
        PlainHarp other = new PlainHarp();
        other.posts = plain.posts;
        other.frost = plain.frost;
        other.kind = plain.kind;
        other.tune = plain.tune;
        other.call("pass", 0, w, step);
        return Math.max(0, other.call("heard", post, 0));
    }

    private long[] arguments(String name) {
        switch (name) {
            case "posts": return new long[] {random.nextInt(30) == 0 ? 10 : draw(2, mostPosts)};
            case "wire": return new long[] {drawWire(), draw(0, 4), random.nextInt(2) == 0 ? draw(0, 11) : draw(0, 2)};
            case "frost": return new long[] {draw(0, 5)};
            case "guard": return new long[] {drawPost(), random.nextInt(4) == 0 ? 0 : 1};
            case "wind": return new long[] {drawMinute(), drawWire()};
            case "pass": return new long[] {drawMinute(), drawWire(), draw(0, 3)};
            case "type": return new long[] {random.nextLong(), draw(1, 8)};
            case "sounds": return new long[] {drawWire(), draw(1, 3), draw(0, 1)};
            case "away": return new long[] {drawPost(), drawWire()};
            case "heard": return new long[] {drawPost(), drawMinute()};
            case "alarm": return new long[] {drawMinute()};
            case "which": return whichArguments();
            case "cover": return new long[] {draw(1, 3)};
            case "slip": case "part": case "image": case "from": return new long[] {draw(0, 1)};
            case "lot": return new long[] {draw(1, plain.posts), drawWire(), draw(0, 3)};
            case "surest": return new long[] {draw(1, plain.posts), draw(0, 3)};
            case "whence": return new long[] {drawPost(), draw(0, 11), draw(1, 3)};
            case "doubt": return new long[] {draw(0, 100), draw(0, 100)};
            case "status": return new long[] {draw(0, 2)};
            case "count": return new long[] {draw(0, 5)};
            default: return new long[0];
        }
    }

    private long[] whichArguments() {
        int a = drawPost();
        int b = drawPost();
        int w = random.nextInt(plain.posts - 1);
        int step = random.nextInt(4);
        return new long[] {a, drawNotes(a, w, step), b, drawNotes(b, w, step), draw(-1, 3)};
    }

    private void typePiece(String piece) {
        for (int at = 0; at < piece.length(); at += 8) {
            String some = piece.substring(at, Math.min(piece.length(), at + 8));
            compare("type", Due.packed(some), some.length());
        }
    }

    /** A text that mostly is a border; it is read, too. */
    private void typeBorder() {
        compare("clear");
        int posts = 2 + random.nextInt(mostPosts - 1);
        List<String> items = new ArrayList<>(List.of("posts " + posts));
        int more = random.nextInt(16);
        for (int i = 0; i < more; i++) {
            items.add(drawItem(posts));
        }
        StringBuilder text = new StringBuilder();
        for (String item : items) {
            text.append(item).append(random.nextInt(9) == 0 ? " ; " : ";");
        }
        for (int harm = random.nextInt(3); harm == 0; harm = random.nextInt(3)) {
            text.insert(random.nextInt(text.length()), PIECES[random.nextInt(PIECES.length)]);
        }
        text.setLength(Math.min(text.length(), 200));
        typePiece(text.toString());
        compare("read");
        compare("digest");
    }

    private String drawItem(int posts) {
        int w = random.nextInt(40) == 0 ? posts - 1 : random.nextInt(posts - 1);
        int minute = random.nextInt(40) == 0 ? 60 : random.nextInt(60);
        switch (random.nextInt(5)) {
            case 0: return "wire " + w + " " + random.nextInt(5) + " " + random.nextInt(12);
            case 1: return "frost " + random.nextInt(6);
            case 2: return "guard " + random.nextInt(posts);
            case 3: return "wind " + minute + " " + w;
            default: return "pass " + minute + " " + w + " " + random.nextInt(4);
        }
    }
}
