/** Promise 12: a border told by a text, and where its faults are. */
public final class TextTest {
    private TextTest() {
    }

    public static void main(String[] args) {
        whole();
        takesThePlace();
        blanksAndNumbers();
        endsTooEarly();
        words();
        numbers();
        strangeBytes();
        tooMany();
        longest();
        Due.end();
    }

    private static void whole() {
        BorderHarp x = new BorderHarp();
        Due.type(x, "posts 9;wire 7 3 11;wire 0 1 2;frost 5;guard 8;guard 0;wind 59 7;pass 0 7 3;pass 59 0 1;");
        Due.served(x, "read()", () -> x.read(), 9);
        BorderHarp y = new BorderHarp();
        y.posts(9);
        y.wire(7, 3, 11);
        y.wire(0, 1, 2);
        y.frost(5);
        y.guard(8, true);
        y.guard(0, true);
        y.wind(59, 7);
        y.pass(0, 7, 3);
        y.pass(59, 0, 1);
        x.clear();
        Due.due("as by calls", x.digest(), y.digest());
    }

    private static void takesThePlace() {
        BorderHarp x = new BorderHarp();
        x.wire(1, 4, 4);
        x.frost(2);
        x.guard(1, true);
        x.wind(1, 1);
        x.pass(1, 1, 1);
        x.image(0);
        x.doubt(50, 50);
        x.undo();
        x.undo();
        Due.type(x, "posts 6;");
        Due.due("read()", x.read(), 1);
        int[] counts = {6, 0, 0, 0, 8, 0};
        for (int what = 0; what < 6; what++) {
            Due.due("count(" + what + ") after read", x.count(what), counts[what]);
        }
        Due.due("wire 1 after read", x.wire(1, 0, 0), 0);
        Due.due("above after read", x.part(0), 2);
        Due.due("status(1) after read", x.status(1), 1);
        Due.due("from(0) after read", x.from(0), 1);
        Due.due("the image after read", x.count(3), 1);
        Due.due("read() again", x.read(), 1);
        Due.due("count(3) after read", x.count(3), 0);
    }

    /** Reads the text beside a border that is not the first one; a fault must leave that as it is. */
    private static void reads(String text, int want) {
        BorderHarp x = new BorderHarp();
        x.posts(4);
        x.guard(2, true);
        x.pass(7, 1, 1);
        Due.type(x, text);
        long digest = x.digest();
        Due.served(x, "read() of '" + text + "'", () -> x.read(), want);
        if (want < 0) {
            Due.due("digest() after '" + text + "'", x.digest(), digest);
        }
    }

    private static void fault(String text, int place) {
        reads(text, -10 - place);
    }

    private static void blanksAndNumbers() {
        reads("posts 6;", 1);
        reads("  posts   6  ;  frost 1 ; ", 2);
        reads("posts6;wire0 0 0;", 2);
        reads("posts 06;wire 00 01 02;pass 09 4 03;", 3);
        reads("posts 2;wire 0 4 11;wire 0 0 0;frost 1;frost 5;", 5);
        reads("posts 2;frost 0;pass 0 0 0;wind 0 0;wire 0 0 0;", 5);
        reads("posts 2;guard 0;guard 1;pass 59 0 3;wind 59 0;", 5);
    }

    private static void endsTooEarly() {
        fault("", 0);
        fault("   ", 3);
        fault("posts", 5);
        fault("posts ", 6);
        fault("posts 6", 7);
        fault("posts 6  ", 9);
        fault("posts 6;wire", 12);
        fault("posts 6;wire 0", 14);
        fault("posts 6;wire 0 0", 16);
        fault("posts 6;wire 0 0 0", 18);
        fault("posts 6;frost 1;pass 1 1 1 ", 27);
        fault("posts 6;guard 1", 15);
        fault("posts 6;wind 1 ", 15);
    }

    private static void words() {
        fault("post 6;", 0);
        fault("postss 6;", 0);
        fault("postsz 6;", 0);
        fault("aposts 6;", 0);
        fault("hosts 6;", 0);
        fault("poets 6;", 0);
        fault("posts 6;gass 1 1 1;", 8);
        fault(" wire 0 0 0;", 1);
        fault("6;", 0);
        fault(";", 0);
        fault(" ;posts 6;", 1);
        fault("posts 6;posts 6;", 8);
        fault("posts 6;frost 1; posts 6;", 17);
        fault("posts 6;win", 8);
        fault("posts 6;windy 1 1;", 8);
        fault("posts 6;;", 8);
        fault("posts 6; 1", 9);
        fault("posts posts 6;", 6);
        fault("posts ;", 6);
        fault("posts 6 7;", 8);
        fault("posts 6 wire 0 0 0;", 8);
        fault("posts 6;wire wire", 13);
        fault("posts 6;wire 0 0;", 16);
        fault("posts 6;wire 0 0 0 0;", 19);
        fault("posts 6;guard 1 true;", 16);
    }

    private static void numbers() {
        fault("posts 1;", 6);
        fault("posts 10;", 6);
        fault("posts 1", 6);
        fault("posts 006;", 6);
        fault("posts 6;wire 5 0 0;", 13);
        fault("posts 6;wire 0 5 0;", 15);
        fault("posts 6;wire 0 0 12;", 17);
        fault("posts 6;wire 000 0 0;", 13);
        fault("posts 6;frost 6;", 14);
        fault("posts 6;frost 001;", 14);
        fault("posts 6;guard 6;", 14);
        fault("posts 6;guard 5;guard 4;guard 5;", 30);
        fault("posts 6;wind 60 0;", 13);
        fault("posts 6;wind 123 0;", 13);
        fault("posts 6;wind 12 345;", 16);
        fault("posts 6;wind 59 5;", 16);
        fault("posts 6;pass 60 0 0;", 13);
        fault("posts 6;pass 59 5 0;", 16);
        fault("posts 6;pass 59 4 4;", 18);
        fault("posts 6;pass 1 1 1 111;", 19);
        fault("posts 6 123456789012345678901234567890;", 8);
    }

    private static void strangeBytes() {
        fault("Posts 6;", 0);
        fault("posts\t6;", 5);
        fault("postS 6;", 0);
        fault("posts-6;", 5);
        fault("posts 6,", 7);
        fault("posts 6;\n", 8);
        fault("posts 6;" + (char) 255, 8);
        fault("posts 6;wire 0 0 0;" + (char) 0, 19);
        fault("posts 6;wire 0 " + (char) 176 + " 0;", 15);
        fault("posts 6:", 7);
        fault("posts 6;frost /;", 14);
        fault("posts 6;frost `;", 14);
        fault("posts 6;frost {;", 14);
    }

    private static void tooMany() {
        String winds = "posts 6;" + "wind 0 0;".repeat(6);
        reads(winds, 7);
        fault(winds + "wind", 62);
        fault(winds + " wind 0 0;", 63);
        fault(winds + "wind 99 0;", 62);
        String passes = "posts 6;" + "pass 1 1 1;".repeat(8);
        reads(passes, 9);
        fault(passes + "pass 1 1 1;", 96);
        fault(passes + "pass", 96);
        reads(passes + "frost 1;", 10);
    }

    private static void longest() {
        reads("posts 6;" + "frost 1;".repeat(24), 25);
        reads("posts 6;" + " ".repeat(192), 1);
        fault("posts 6;" + " ".repeat(191) + "w", 199);
        fault("posts 6;" + "frost 1;".repeat(23) + "frost 1 ", 200);
        fault("z".repeat(200), 0);
        fault("posts " + "1".repeat(194), 6);
    }
}
