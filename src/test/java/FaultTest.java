/**
 * "FAULT: the place of the first byte of the first TOKEN that can not stand there": each that the document names, at
 * each place where it can be. Wherever a text has a fault, all stays, STATUS too.
 */
public final class FaultTest {
    private static final String[] WORDS = {"posts", "wire", "frost", "guard", "wind", "pass"};
    private static final String[] ITEMS = {"wire 0 0 0;", "frost 0;", "guard 0;", "wind 0 0;", "pass 0 0 0;"};
    private static final String ALL = "posts 9;wire 7 4 11; frost 5 ;guard 8;wind 59 7;pass 59 7 3;";

    private FaultTest() {
    }

    public static void main(String[] args) {
        wordsThatAreNone();
        postsAgain();
        aheadOfPosts();
        seventhWind();
        ninthPass();
        numbers();
        thirdFigure();
        guardWhereOneIs();
        bytesAtAnItem();
        bytesAtANumber();
        bytesBetween();
        otherTokens();
        endsTooEarly();
        firstOfTwo();
        atTheLastByte();
        blanksBetween();
        Due.end();
    }

    /** The border that stands ahead of each reading is full: what is read takes its place, or it stays. */
    private static BorderHarp withText(String text) {
        BorderHarp x = Made.full(4);
        x.clear();
        Due.type(x, text);
        return x;
    }

    private static void fault(String text, int place) {
        Whole.asked(() -> withText(text), -10 - place, "read");
    }

    private static void reads(String text, int items) {
        Whole.changedBorder(() -> withText(text), items, "read");
    }

    /** "a word that is none": a letter too few, too many, another one, a capital. */
    private static void wordsThatAreNone() {
        for (String word : WORDS) {
            for (int i = 0; i < word.length(); i++) {
                String ahead = word.substring(0, i);
                String behind = word.substring(i + 1);
                noWord(ahead + behind);
                noWord(ahead + word.charAt(i) + word.charAt(i) + behind);
                noWord(ahead + (char) (word.charAt(i) + 1) + behind);
                noWord(ahead + (char) (word.charAt(i) - 32) + behind);
            }
            noWord(word + WORDS[0]);
        }
        noWord("a");
        noWord("z");
        noWord("border");
        noWord("z".repeat(190));
    }

    private static void noWord(String word) {
        fault(word + " 0", 0);
        fault("posts 6;" + word + " 0", 8);
    }

    /** "posts n (once ..)", "posts again": whatever follows it. */
    private static void postsAgain() {
        fault("posts 6;posts", 8);
        fault("posts 6;posts 6;", 8);
        fault("posts 6; posts 1;", 9);
        String text = "posts 6;";
        for (String item : ITEMS) {
            text += item;
            fault(text + "posts 6;", text.length());
        }
    }

    /** "posts n (.. first of all)", "anything ahead of it". */
    private static void aheadOfPosts() {
        for (String item : ITEMS) {
            fault(item, 0);
            fault("  " + item + "posts 6;", 2);
        }
        for (String ahead : new String[] {";", "6", "06", "006", "z", "-", "P", "" + (char) 0, "" + (char) 255}) {
            fault(ahead, 0);
            fault(ahead + " posts 6;", 0);
            fault(" " + ahead + " posts 6;", 1);
        }
    }

    /** "a 7th wind .. at its word". */
    private static void seventhWind() {
        String six = "posts 2;" + "wind 59 0;".repeat(6);
        reads(six, 7);
        reads(six + "pass 0 0 0;guard 1;", 9);
        for (String behind : new String[] {"", " 0 0;", " 60 0;", " x", ";"}) {
            fault(six + "wind" + behind, six.length());
            fault(six + "frost 1; wind" + behind, six.length() + 9);
        }
    }

    /** "9th pass at its word". */
    private static void ninthPass() {
        String eight = "posts 2;" + "pass 59 0 3;".repeat(8);
        reads(eight, 9);
        reads(eight + "wind 0 0;guard 1;", 11);
        for (String behind : new String[] {"", " 0 0 0;", " 60 0 0;", " x", ";"}) {
            fault(eight + "pass" + behind, eight.length());
            fault(eight + "frost 1; pass" + behind, eight.length() + 9);
        }
    }

    /** "a number not as told": every number of one or two figures, at each place of each item. */
    private static void numbers() {
        number("", "posts", 0, 2, 9);
        for (int n = 2; n <= 9; n++) {
            String ahead = "posts " + n + ";";
            number(ahead, "wire", 0, 0, n - 2, 0, 4, 0, 11);
            number(ahead, "wire", 1, 0, n - 2, 0, 4, 0, 11);
            number(ahead, "wire", 2, 0, n - 2, 0, 4, 0, 11);
            number(ahead, "frost", 0, 0, 5);
            number(ahead, "guard", 0, 0, n - 1);
            number(ahead, "wind", 0, 0, 59, 0, n - 2);
            number(ahead, "wind", 1, 0, 59, 0, n - 2);
            number(ahead, "pass", 0, 0, 59, 0, n - 2, 0, 3);
            number(ahead, "pass", 1, 0, 59, 0, n - 2, 0, 3);
            number(ahead, "pass", 2, 0, 59, 0, n - 2, 0, 3);
        }
    }

    /** The limits are told as pairs; the number at this place is each of 0 to 99, the others are the most. */
    private static void number(String ahead, String word, int at, int... limits) {
        for (int value = 0; value < 100; value++) {
            boolean asTold = limits[2 * at] <= value && value <= limits[2 * at + 1];
            for (String figures : new String[] {"" + value, value < 10 ? "0" + value : "" + value}) {
                String head = ahead + word;
                int place = 0;
                for (int i = 0; i < limits.length / 2; i++) {
                    head += " ";
                    place = i == at ? head.length() : place;
                    head += i == at ? figures : "" + limits[2 * i + 1];
                }
                String text = head + ";";
                BorderHarp x = new BorderHarp();
                Due.type(x, text);
                int items = ahead.isEmpty() ? 1 : 2;
                Due.due("read() of '" + text + "'", x.read(), asTold ? items : -10 - place);
            }
        }
    }

    /** "figures (1 or 2 are one number)", "a third figure's number": at its first figure, however small it is. */
    private static void thirdFigure() {
        for (String figures : new String[] {"000", "001", "002", "010", "100", "200", "999", "0002", "2".repeat(100)}) {
            fault("posts " + figures + ";", 6);
            fault("posts" + figures, 5);
            fault("posts 6;wire " + figures + " 0 0;", 13);
            fault("posts 6;wire 0 " + figures + " 0;", 15);
            fault("posts 6;wire 0 0 " + figures + ";", 17);
            fault("posts 6;frost " + figures + ";", 14);
            fault("posts 6;guard " + figures + ";", 14);
            fault("posts 6;wind " + figures + " 0;", 13);
            fault("posts 6;wind 0 " + figures + ";", 15);
            fault("posts 6;pass " + figures + " 0 0;", 13);
            fault("posts 6;pass 0 " + figures + " 0;", 15);
            fault("posts 6;pass 0 0 " + figures + ";", 17);
            fault("posts 6;wind " + figures, 13);
            fault("posts 6;" + figures, 8);
        }
        reads("posts 02;wire 00 04 11;pass 59 00 03;", 3);
    }

    /** "also a guard where one is": at the number; the guards of the border that stood before are none. */
    private static void guardWhereOneIs() {
        String nine = "posts 9;";
        for (int post = 0; post < 9; post++) {
            nine += "guard " + post + ";";
        }
        reads(nine, 10);
        for (int post = 0; post < 9; post++) {
            fault(nine + "guard " + post + ";", nine.length() + 6);
            fault("posts 9;guard " + post + ";frost 1;guard 0" + post + ";", 30);
        }
        fault(nine + "guard 9;", nine.length() + 6);
        fault("posts 4;guard 3;guard 3", 22);
        reads("posts 4;guard 0;guard 3;", 3);
    }

    /** "a byte that begins none": all 256 where an item may begin. */
    private static void bytesAtAnItem() {
        for (char sign = 0; sign < 256; sign++) {
            if (sign == ' ') {
                reads("posts 6;" + sign, 1);
                fault("" + sign, 1);
            } else {
                fault("posts 6;" + sign, 8);
                fault("posts 6;frost 1; " + sign + " frost 1;", 17);
                fault("" + sign, 0);
            }
        }
    }

    /** All 256 where a number of 0 .. 5 must stand. */
    private static void bytesAtANumber() {
        for (char sign = 0; sign < 256; sign++) {
            String text = "posts 6;frost " + sign + ";";
            if (sign >= '0' && sign <= '5') {
                reads(text, 2);
            } else {
                fault(text, sign == ' ' ? 15 : 14);
            }
        }
    }

    /** "blanks (32) between": all 256 between a word and its number, and between a number and its end. */
    private static void bytesBetween() {
        for (char sign = 0; sign < 256; sign++) {
            boolean letter = sign >= 'a' && sign <= 'z';
            boolean figure = sign >= '0' && sign <= '9';
            String text = "posts 6;frost" + sign + "3;";
            if (sign == ' ' || sign == '0') {
                reads(text, 2);
            } else {
                fault(text, letter ? 8 : 13);
            }
            text = "posts 6;wind 5" + sign + " 4;";
            if (sign == ' ' || figure) {
                reads(text, 2);
            } else {
                fault(text, 14);
            }
        }
    }

    /** A token that could stand elsewhere, but not there. */
    private static void otherTokens() {
        for (String word : WORDS) {
            fault("posts " + word, 6);
            fault("posts 6 " + word, 8);
            fault("posts 6;wire " + word, 13);
            fault("posts 6;wire 0 0 0 " + word, 19);
            fault("posts 6;wire 0 0 0" + word, 18);
        }
        fault("posts;", 5);
        fault("posts 6;;", 8);
        fault("posts 6 6;", 8);
        fault("posts 6;6;", 8);
        for (String item : new String[] {"wire 0 0 ", "wind 0 ", "pass 0 0 ", "frost ", "guard "}) {
            fault("posts 6;" + item + ";", 8 + item.length());
            fault("posts 6;" + item + "0 0;", 10 + item.length());
        }
    }

    /** "the TEXT's length, if it ends too early (an empty one, too)": each beginning of a border. */
    private static void endsTooEarly() {
        fault("", 0);
        for (int length = 1; length <= 192; length += 19) {
            fault(" ".repeat(length), length);
        }
        fault(" ".repeat(200), 200);
        int items = 0;
        for (int length = 1; length <= ALL.length(); length++) {
            String text = ALL.substring(0, length);
            char last = text.charAt(length - 1);
            items += last == ';' ? 1 : 0;
            if (text.trim().endsWith(";")) {
                reads(text, items);
            } else if (cutsAWord(length)) {
                fault(text, text.length() - text.replaceAll("^.*[^a-z]", "").length());
            } else {
                fault(text, length);
                fault(text + " ", length + 1);
            }
        }
    }

    private static boolean cutsAWord(int length) {
        return Character.isLowerCase(ALL.charAt(length - 1)) && Character.isLowerCase(ALL.charAt(length));
    }

    /** "the first TOKEN": what is behind it does not matter. */
    private static void firstOfTwo() {
        fault("posts 6;frost 9;frost 9;", 14);
        fault("posts 6;wire 9 9 99;", 13);
        fault("posts 6;wire 0 9 99;", 15);
        fault("posts 6;wire 0 0 99 z", 17);
        fault("posts 0;posts 0;", 6);
        fault("posts 6;pass 60 9 9;?", 13);
        fault("posts 6;guard 1;guard 1?", 22);
    }

    /** "(200 bytes at most)": faults at the last byte and behind it, and a border to the last byte. */
    private static void atTheLastByte() {
        String most = "posts 9;" + "frost 5;".repeat(23);
        reads(most + "guard 8;", 25);
        fault(most + "guard 8 ", 200);
        fault(most + "guard 08", 200);
        fault(most + "guard 8z", 199);
        fault(most + "guard  9", 199);
        fault(most + "       w", 199);
        fault(most + "       ?", 199);
        fault(most + "guard 88", 198);
        fault(most + "guard   ", 200);
        // The most items that 200 bytes can tell.
        reads("posts2;" + "frost1;".repeat(27), 28);
    }

    /** "blanks (32) between": none, one or many, ahead of all and behind all. */
    private static void blanksBetween() {
        String[] tokens = {"posts", "9", ";", "wire", "7", "1", "11", ";", "pass", "59", "7", "3", ";"};
        for (int many = 1; many <= 9; many++) {
            String text = " ".repeat(many);
            for (String token : tokens) {
                text += token + " ".repeat(many);
            }
            BorderHarp x = new BorderHarp();
            Due.type(x, text);
            Due.due("read() of '" + text + "'", x.read(), 3);
            Due.due("its wire", x.wire(7, 0, 0), 23);
            Due.due("its pass", x.heard(8, 59), 1);
        }
        reads("posts9;wire7 1 11;pass59 7 3;guard8;wind0 0;frost5;", 6);
    }
}
