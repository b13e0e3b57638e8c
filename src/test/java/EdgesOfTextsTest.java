import java.util.Arrays;
import java.util.List;

/** The edges of promises 1 to 5, and of what 'Terms' I says of texts: just at each bound, and one beyond it. */
public final class EdgesOfTextsTest {
    private static final Check CHECK = new Check("EdgesOfTextsTest");
    private static final List<String> WORDS = List.of("man", "good", "price", "dips", "buys", "wants", "faint", "grace",
        "if", "then", "else", "ink", "soot", "larder", "day", "store", "bought", "cost");
    private static final List<String> VARS = List.of("ink", "soot", "larder", "day", "store", "bought", "cost");
    private static final int BLANKS = 0x20202020;

    public static void main(String[] args) {
        newObject();
        newObjectHasNoSuchOnes();
        feedsTwentyBytesInOrder();
        feedToTheLastByte();
        backToTheFirstByte();
        readEmptiesTheTape();
        placeOfTheLatest();
        blanksAndOtherBytes();
        bytesWithinLaws();
        lettersOfNames();
        wordsAreNoNames();
        digitsOfInts();
        tokensWithoutBlanks();
        whatGoesOn();
        textEndsEarly();
        longestText();
        CHECK.end();
    }

    private static String times(String part, int n) {
        return part.repeat(n);
    }

    // ---- promise 1

    private static void newObject() {
        SiegeInk empty = new SiegeInk();
        CHECK.due("read of nothing", empty.read(), 0);
        Twins.alike(CHECK, "a new object is as if an empty text had been read", Twins.later(new SiegeInk()), Twins.later(empty));
        CHECK.due("place of a new object", new SiegeInk().place(), -1);
        int[] due = {0, 0, 0, 0, 50, 2, 0, 0, 0, 0, 0, 0, 0, 0, 0, -1};
        for (int what = 0; what < due.length; what++) {
            CHECK.due("new: count(" + what + ")", new SiegeInk().count(what), due[what]);
        }
    }

    private static void newObjectHasNoSuchOnes() {
        Twins none = new Twins(CHECK, "", x -> { });
        none.unchanged("man(0, 0)", -1, x -> x.man(0, 0));
        none.unchanged("good(0, 0)", -1, x -> x.good(0, 0));
        none.unchanged("debt(0, 1)", -1, x -> x.debt(0, 1));
        none.unchanged("order(0, 0, 1)", -1, x -> x.order(0, 0, 1));
        none.unchanged("letter(0, 1)", -1, x -> x.letter(0, 1));
        none.refuses("lend(0, 1, 1)", x -> x.lend(0, 1, 1));
        none.unchanged("repay(0, 1, 1)", -1, x -> x.repay(0, 1, 1));
        none.unchanged("blot(0, 1)", -1, x -> x.blot(0, 1));
        none.unchanged("water(0, 1)", -1, x -> x.water(0, 1));
        none.unchanged("days(0)", 0, x -> x.days(0));
        none.refuses("undo()", x -> x.undo());
        none.unchanged("page(0, 0)", -1, x -> x.page(0, 0));
        none.unchanged("over()", 0, x -> x.over());
        none.unchanged("last()", -2, x -> x.last());
        none.unchanged("lives(0)", -1, x -> x.lives(0));
        none.unchanged("aid(0, 1, 1)", -1, x -> x.aid(0, 1, 1));
        none.unchanged("rival(0, 0)", -1, x -> x.rival(0, 0));
        none.unchanged("led(-1, -1)", 0, x -> x.led(-1, -1));
        none.unchanged("led(-1, -2)", 0, x -> x.led(-1, -2));
        none.unchanged("led(0, -1)", -1, x -> x.led(0, -1));
        none.unchanged("led(-1, 0)", -1, x -> x.led(-1, 0));
        none.unchanged("unwritten(0, 1, 0)", -1000000, x -> x.unwritten(0, 1, 0));
        none.unchanged("best(0, 0)", -1, x -> x.best(0, 0));
        none.unchanged("bestOf(0, 0)", -1, x -> x.bestOf(0, 0));
        none.unchanged("settles(0, 0, 0)", -1, x -> x.settles(0, 0, 0));
        none.unchanged("tell(1, 50)", -1, x -> x.tell(1, 50));
        none.unchanged("tell(0, 50)", -1, x -> x.tell(0, 50));
        none.unchanged("watered(1, 0, -1)", 0, x -> x.watered(1, 0, -1));
        none.unchanged("watered(1, 0, 0)", -1, x -> x.watered(1, 0, 0));
        none.refuses("restore(0)", x -> x.restore(0));
        none.unchanged("place()", -1, x -> x.place());
    }

    // ---- promise 2

    private static void feedsTwentyBytesInOrder() {
        for (int at = 0; at < 20; at++) {
            int[] w = {BLANKS, BLANKS, BLANKS, BLANKS, BLANKS};
            int shift = 24 - at % 4 * 8;
            w[at / 4] = w[at / 4] & ~(255 << shift) | '#' << shift;
            SiegeInk x = new SiegeInk();
            CHECK.due("feed", x.feed(w[0], w[1], w[2], w[3], w[4]), 20);
            CHECK.due("read of blanks and one #", x.read(), 1);
            CHECK.due("the byte " + at, x.place(), at);
        }
    }

    /** A tape of so many blanks. */
    private static SiegeInk blanks(int bytes) {
        SiegeInk x = new SiegeInk();
        Check.feed(x, times(" ", bytes));
        return x;
    }

    private static void feedToTheLastByte() {
        SiegeInk x = blanks(1960);
        CHECK.due("feed to 1980", x.feed(BLANKS, BLANKS, BLANKS, BLANKS, BLANKS), 1980);
        CHECK.due("feed to 2000", x.feed(BLANKS, BLANKS, BLANKS, BLANKS, 0x20202023), 2000);
        CHECK.due("feed beyond", x.feed(0x23232323, BLANKS, BLANKS, BLANKS, BLANKS), -1);
        CHECK.due("nothing came", x.count(11), 2000);
        CHECK.due("back(1)", x.back(1), 1999);
        CHECK.due("what is left is as it was", x.read(), 0);
        for (int bytes = 1981; bytes < 2000; bytes++) {
            x = blanks(bytes);
            CHECK.due("feed behind " + bytes, x.feed(0x23232323, 0x23232323, 0x23232323, 0x23232323, 0x23232323), -1);
            CHECK.due("nothing came", x.count(11), bytes);
            CHECK.due("read: none of it came", x.read(), 0);
        }
        Twins full = new Twins(CHECK, "man a 9 0 1 9; man b 9 0 1 9; good g 1 9;", t -> {
            t.letter(0, 1);
            t.hold(0);
            Check.feed(t, times("faint 7;", 250));
        });
        full.unchanged("feed behind 2000", -1, t -> t.feed(1, 2, 3, 4, 5));
        full.unchanged("back(2001)", -1, t -> t.back(2001));
        full.unchanged("back(-1)", -1, t -> t.back(-1));
    }

    // ---- promise 3

    private static void backToTheFirstByte() {
        SiegeInk x = new SiegeInk();
        CHECK.due("back(0) of none", x.back(0), 0);
        CHECK.due("back(1) of none", x.back(1), -1);
        x.feed(0x66616964, BLANKS, BLANKS, BLANKS, 0x20202023);
        CHECK.due("back(21) of 20", x.back(21), -1);
        CHECK.due("back(MAX)", x.back(Integer.MAX_VALUE), -1);
        CHECK.due("back(-1)", x.back(-1), -1);
        CHECK.due("back(MIN)", x.back(Integer.MIN_VALUE), -1);
        CHECK.due("back(0)", x.back(0), 20);
        CHECK.due("nothing went", x.count(11), 20);
        CHECK.due("back(17)", x.back(17), 3);
        CHECK.due("back(4) of 3", x.back(4), -1);
        x.feed(0x6E742037, 0x3B202020, BLANKS, BLANKS, BLANKS);
        CHECK.due("behind what is left", x.count(11), 23);
        CHECK.due("it reads faint 7;", x.read(), 0);
        CHECK.due("faint", x.count(4), 7);
        x.feed(0x23232323, BLANKS, BLANKS, BLANKS, BLANKS);
        CHECK.due("back(20) of 20", x.back(20), 0);
        CHECK.due("all went", x.read(), 0);
    }

    // ---- promises 4 and 5

    private static void readEmptiesTheTape() {
        String[] texts = {"faint 7;", "", "faint", times("faint 7;", 134), "man a 1 1 1 1; man a 1 1 1 1;", "price g = 1;", "faint 101;"};
        int[] faults = {0, 0, 1, 2, 3, 4, 5};
        SiegeInk x = new SiegeInk();
        for (int i = 0; i < texts.length; i++) {
            CHECK.due("read of text " + i, Check.read(x, texts[i]), faults[i]);
            CHECK.due("tape behind text " + i, x.count(11), 0);
            CHECK.due("back(1) behind text " + i, x.back(1), -1);
        }
        x = Check.town("man a 9 0 1 9;");
        CHECK.due("an empty tape is a text", x.read(), 0);
        CHECK.due("it is in place of the one ahead", x.count(0), 0);
    }

    private static void placeOfTheLatest() {
        SiegeInk x = Check.town("man a 9 0 1 9; good g 1 9;");
        CHECK.due("place without a FAULT", x.place(), -1);
        CHECK.due("read", Check.read(x, "#"), 1);
        CHECK.due("place at the first byte", x.place(), 0);
        Check.feed(x, "faint 7;");
        x.order(0, 0, 1);
        x.days(1);
        x.undo();
        CHECK.due("place till the next read", x.place(), 0);
        CHECK.due("read", x.read(), 0);
        CHECK.due("place of a text without", x.place(), -1);
        CHECK.due("read", Check.read(x, "faint 101;"), 5);
        CHECK.due("read", Check.read(x, " #"), 1);
        CHECK.due("place of the latest", x.place(), 1);
        CHECK.due("read of nothing", x.read(), 0);
        CHECK.due("place of nothing", x.place(), -1);
    }

    // ---- TOKENS

    private static boolean isBlank(int b) {
        return b == 9 || b == 10 || b == 13 || b == 32;
    }

    private static boolean isLetter(int b) {
        return b >= 'a' && b <= 'z';
    }

    private static boolean isDigit(int b) {
        return b >= '0' && b <= '9';
    }

    private static void blanksAndOtherBytes() {
        for (int b = 0; b < 256; b++) {
            String text = "faint" + (char) b + "7;";
            if (isBlank(b) || isDigit(b)) {
                CHECK.fine(text);
                CHECK.due("faint by byte " + b, Check.town(text).count(4), isBlank(b) ? 7 : 10 * (b - '0') + 7);
            } else {
                // With a letter it is one NAME, and no TELL starts with that.
                CHECK.fault(text, 1, isLetter(b) ? 0 : 5);
            }
        }
    }

    private static void bytesWithinLaws() {
        for (int b = 0; b < 256; b++) {
            String text = "good g 1 1;price g=1" + (char) b + "2;";
            if (isDigit(b) || b == '+' || b == '-' || b == '*' || b == '/') {
                CHECK.fine(text);
            } else {
                // Behind a blank, or the end of the TELL, it is the 2 that does not go on.
                CHECK.fault(text, 1, isBlank(b) || b == ';' ? 21 : 20);
            }
        }
    }

    private static void lettersOfNames() {
        for (int n = 1; n <= 12; n++) {
            String name = "zyxwvutsrqpo".substring(0, n);
            CHECK.fault("man " + name + " 1 1 1 1;", n <= 8 ? 0 : 1, n <= 8 ? -1 : 4);
            CHECK.fault("good " + name + " 1 1;", n <= 8 ? 0 : 1, n <= 8 ? -1 : 5);
        }
        CHECK.fault("man " + times("a", 300) + " 1 1 1 1;", 1, 4);
        CHECK.fine("man abcdefgh 1 1 1 1;man abcdefgi 1 1 1 1;man bbcdefgh 1 1 1 1;good abcdefg 1 1;");
        CHECK.fault("man abcdefgh 1 1 1 1;man abcdefgh 1 1 1 1;", 3, 25);
        CHECK.fault("man abcdefgh 1 1 1 1;man abcdefghi 1 1 1 1;", 1, 25);
        for (char c = 'a'; c <= 'z'; c++) {
            CHECK.fine("man " + c + " 1 1 1 1;");
        }
    }

    private static void wordsAreNoNames() {
        for (String word : WORDS) {
            CHECK.fault("man " + word + " 1 1 1 1;", 1, 4);
            CHECK.fault("good " + word + " 1 1;", 1, 5);
            CHECK.fault("man a 1 1 1 1; buys a " + word + " = 1;", 1, 22);
            CHECK.fine("man " + word + "x 1 1 1 1;");
            CHECK.fine("man x" + word + " 1 1 1 1;");
            CHECK.fine("man " + word.substring(1) + " 1 1 1 1;");
            CHECK.fine("man " + word.substring(0, word.length() - 1) + " 1 1 1 1;");
        }
        CHECK.fine("man text 1 1 1 1;man name 1 1 1 1;man int 1 1 1 1;man water 1 1 1 1;good bread 1 1;");
    }

    private static void digitsOfInts() {
        CHECK.fine("man a 9 9 9 9;");
        CHECK.fine("man a 0009 0009 0009 0009;");
        CHECK.fault("man a 00009 9 9 9;", 1, 6);
        CHECK.fault("man a 10000 9 9 9;", 1, 6);
        CHECK.fault("man a 9 00000 9 9;", 1, 8);
        CHECK.fault("man a " + times("1", 300) + " 9 9 9;", 1, 6);
        SiegeInk x = Check.town("man a 9999 9999 0009 0999; good g 0009 0999;");
        CHECK.due("INK 9999", x.man(0, 1), 9999);
        CHECK.due("and WATER 9999", x.man(0, 0), 19998);
        CHECK.due("LARDER 0999", x.man(0, 3), 999);
        CHECK.due("BREAD 0009", x.good(0, 1), 9);
        CHECK.due("STORE 0999", x.good(0, 0), 999);
        CHECK.due("a law's 9999", Check.town("good g 1 1;price g=9999/101;").good(0, 2), 99);
        CHECK.fault("good g 1 1;price g=10000/102;", 1, 19);
    }

    private static void tokensWithoutBlanks() {
        CHECK.fine("man a1 2 3 4;good g1 2;price g=if 1<2then 3else 4;dips a=ink*soot;faint1;grace1;");
        CHECK.fine("man\ta\n1\r2 3 4;");
        CHECK.fine("  man  a  1  2  3  4  ;  ");
        CHECK.fault("mana 1 2 3 4;", 1, 0);
        CHECK.fault("man a 1 2 34;", 1, 12);
        CHECK.fault("man a 12 34;", 1, 11);
        CHECK.fault("good g 1 1;price g=1+-2;", 1, 21);
        CHECK.fault("good g 1 1;price g=if 1<2then3else4;", 0, -1);
        CHECK.fault("good g 1 1;price g=if1<2then3else4;", 0, -1);
        CHECK.fault("good g 1 1;price g=ifink<2then3else4;", 1, 19);
    }

    // ---- the grammar

    /** Behind each start of a text: what goes on, V for each VAR, 1 for an INT, x for a NAME. */
    private static final String[][] GOES_ON = {
        {"", "man good price dips buys wants faint grace"},
        {"faint 1 ;", "man good price dips buys wants faint grace"},
        {"man", "x"},
        {"man a", "1"},
        {"man a 1", "1"},
        {"man a 1 1", "1"},
        {"man a 1 1 1", "1"},
        {"man a 1 1 1 1", ";"},
        {"good", "x"},
        {"good g", "1"},
        {"good g 1", "1"},
        {"good g 1 1", ";"},
        {"price", "x"},
        {"price g", "="},
        {"price g =", "if 1 V ("},
        {"dips", "x"},
        {"dips g", "="},
        {"dips g =", "if 1 V ("},
        {"buys", "x"},
        {"buys a", "x"},
        {"buys a g", "="},
        {"buys a g =", "if 1 V ("},
        {"wants", "x"},
        {"wants a", "x"},
        {"wants a g", "="},
        {"wants a g =", "if 1 V ("},
        {"faint", "1"},
        {"faint 1", ";"},
        {"grace", "1"},
        {"grace 1", ";"},
        {"price g = 1", "+ - * / ;"},
        {"price g = ink", "+ - * / ;"},
        {"price g = 1 +", "1 V ("},
        {"price g = 1 -", "1 V ("},
        {"price g = 1 *", "1 V ("},
        {"price g = 1 /", "1 V ("},
        {"price g = 1 + 2", "+ - * / ;"},
        {"price g = (", "1 V ("},
        {"price g = ( 1", "+ - * / )"},
        {"price g = ( 1 +", "1 V ("},
        {"price g = ( ( 1", "+ - * / )"},
        {"price g = ( ( 1 )", "+ - * / )"},
        {"price g = ( 1 )", "+ - * / ;"},
        {"price g = if", "1 V ("},
        {"price g = if 1", "+ - * / <"},
        {"price g = if ( 1", "+ - * / )"},
        {"price g = if ( 1 )", "+ - * / <"},
        {"price g = if 1 +", "1 V ("},
        {"price g = if 1 <", "1 V ("},
        {"price g = if 1 < 2", "+ - * / then"},
        {"price g = if 1 < ( 2", "+ - * / )"},
        {"price g = if 1 < ( 2 )", "+ - * / then"},
        {"price g = if 1 < 2 then", "1 V ("},
        {"price g = if 1 < 2 then 3", "+ - * / else"},
        {"price g = if 1 < 2 then ( 3", "+ - * / )"},
        {"price g = if 1 < 2 then ( 3 )", "+ - * / else"},
        {"price g = if 1 < 2 then 3 else", "if 1 V ("},
        {"price g = if 1 < 2 then 3 else 4", "+ - * / ;"},
        {"price g = if 1 < 2 then 3 else 4 +", "1 V ("},
        {"price g = if 1 < 2 then 3 else if", "1 V ("},
        {"price g = if 1 < 2 then 3 else if 4 < 5 then 6 else", "if 1 V ("},
        {"price g = if 1 < 2 then 3 else if 4 < 5 then 6 else 7", "+ - * / ;"},
    };
    private static final String[] NO_TOKENS = {"#", "A", "_", ".", ",", ">", "[", "!", "abcdefghi", "12345"};

    private static void whatGoesOn() {
        for (String[] row : GOES_ON) {
            List<String> on = Arrays.asList(row[1].split(" "));
            for (String word : WORDS) {
                goesOn(row[0], word, on.contains(word) || on.contains("V") && VARS.contains(word));
            }
            for (String sign : "; = + - * / < ( )".split(" ")) {
                goesOn(row[0], sign, on.contains(sign));
            }
            goesOn(row[0], "1", on.contains("1"));
            goesOn(row[0], "0", on.contains("1"));
            goesOn(row[0], "x", on.contains("x"));
            for (String none : NO_TOKENS) {
                goesOn(row[0], none, false);
            }
        }
    }

    private static void goesOn(String start, String token, boolean due) {
        SiegeInk x = new SiegeInk();
        int at = start.isEmpty() ? 0 : start.length() + 1;
        int fault = Check.read(x, start.isEmpty() ? token : start + " " + token);
        CHECK.due("'" + start + "' goes on with " + token, fault != 1 || x.place() != at, due);
        if (!due) {
            CHECK.due("'" + start + "' and " + token + " is SYNTAX", fault, 1);
        }
    }

    private static void textEndsEarly() {
        String text = "man a 1 1 1 1 ; good g 1 1 ; price g = 1 + ( 2 ) ; dips a = if 1 < 2 then 3 else 4 ;"
            + " buys a g = 1 ; wants a g = ink ; faint 1 ; grace 1 ;";
        String start = "";
        for (String token : text.split(" ")) {
            start = start.isEmpty() ? token : start + " " + token;
            boolean whole = token.equals(";");
            CHECK.fault(start, whole ? 0 : 1, whole ? -1 : start.length());
            CHECK.fault(start + " ", whole ? 0 : 1, whole ? -1 : start.length() + 1);
            CHECK.fault(start + "\n\r\t ", whole ? 0 : 1, whole ? -1 : start.length() + 4);
            CHECK.fault(start + " #", 1, start.length() + 1);
        }
    }

    private static void longestText() {
        // 2,000 bytes, and a FAULT at the last one, or at the end.
        CHECK.fine(times(" ", 1992) + "faint 7;");
        CHECK.fault(times(" ", 1999) + "#", 1, 1999);
        CHECK.fault(times(" ", 1995) + "faint", 1, 2000);
        CHECK.fault(times(" ", 1994) + "faint ", 1, 2000);
        CHECK.fault("faint" + times(" ", 1995), 1, 2000);
        CHECK.fault(times("a", 2000), 1, 0);
        CHECK.fault(times("faint 7;", 133) + times(" ", 935) + "x", 1, 1999);
    }
}
