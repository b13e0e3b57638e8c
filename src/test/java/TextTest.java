/** Promises 1 to 5: a new object, the tape, texts and their FAULTS. */
public final class TextTest {
    private static final Check CHECK = new Check("TextTest");

    public static void main(String[] args) {
        newObject();
        tape();
        goodTexts();
        syntax();
        room();
        names();
        numbers();
        faultChangesNothing();
        newTextStartsAnew();
        CHECK.end();
    }

    private static void fault(String text, int fault, int place) {
        CHECK.fault(text, fault, place);
    }

    private static void fine(String text) {
        CHECK.fine(text);
    }

    private static void newObject() {
        SiegeInk x = new SiegeInk();
        int[] due = {0, 0, 0, 0, 50, 2, 0, 0, 0, 0, 0, 0, 0, 0, 0};
        for (int what = 0; what < due.length; what++) {
            CHECK.due("new: count(" + what + ")", x.count(what), due[what]);
        }
        CHECK.due("new: place()", x.place(), -1);
        CHECK.due("new: undo()", x.undo(), false);
        CHECK.due("new: restore(0)", x.restore(0), false);
    }

    private static void tape() {
        SiegeInk x = new SiegeInk();
        CHECK.due("back(0) of none", x.back(0), 0);
        CHECK.due("back(1) of none", x.back(1), -1);
        for (int i = 1; i <= 100; i++) {
            CHECK.due("feed " + i, x.feed(0x20202020, 0x20202020, 0x20202020, 0x20202020, 0x20202020), 20 * i);
        }
        CHECK.due("feed beyond 2000", x.feed(1, 2, 3, 4, 5), -1);
        CHECK.due("count(11)", x.count(11), 2000);
        CHECK.due("back(19)", x.back(19), 1981);
        CHECK.due("feed beyond 2000 by one", x.feed(1, 2, 3, 4, 5), -1);
        CHECK.due("back(-1)", x.back(-1), -1);
        CHECK.due("back(1982)", x.back(1982), -1);
        CHECK.due("back(MIN)", x.back(Integer.MIN_VALUE), -1);
        CHECK.due("back(MAX)", x.back(Integer.MAX_VALUE), -1);
        CHECK.due("back(1)", x.back(1), 1980);
        CHECK.due("feed to 2000", x.feed(0x20202020, 0x20202020, 0x20202020, 0x20202020, 0x20202020), 2000);
        CHECK.due("read of blanks", x.read(), 0);
        CHECK.due("tape is empty then", x.count(11), 0);
        // The highest byte comes first: "grac" "e 3;".
        x.feed(0x67726163, 0x6520333B, 0x09090909, 0x0A0A0A0A, 0x0D0D0D0D);
        CHECK.due("read of grace 3", x.read(), 0);
        CHECK.due("grace", x.count(5), 3);
        x.feed(0x80818283, 0xFFFEFDFC, 0, 0, 0);
        CHECK.due("read of high bytes", x.read(), 1);
        CHECK.due("place of high bytes", x.place(), 0);
        CHECK.due("tape is empty after a FAULT", x.count(11), 0);
    }

    private static void goodTexts() {
        fine("");
        fine(" \t\r\n ");
        fine("man a 0 0 1 0;man abcdefgh 9999 9999 9 999;good b 9 999;good c 1 0;faint 100;grace 9;");
        fine("man a1 2 3 4;");
        fine("man text 0001 0 1 0; good tell 1 1; buys text tell=if ink<soot then 1else if day<2then 3 else 4;");
        fine("faint 0; faint 7; grace 0; grace 1;");
        fine("good g 1 1; price g = ((((((1)))))) + (2) * (3 - ink / soot);");
        SiegeInk x = Check.town("faint 0; faint 7; grace 0; grace 1; man a1 2 3 4;");
        CHECK.due("the last faint", x.count(4), 7);
        CHECK.due("the last grace", x.count(5), 1);
        CHECK.due("ink of a1 2 3 4", x.man(0, 1), 1);
        CHECK.due("drops of a1 2 3 4", x.man(0, 0), 3);
    }

    private static void syntax() {
        fault("man", 1, 3);
        fault("man ", 1, 4);
        fault("man a 1 1 1 1", 1, 13);
        fault("man a 1 1 1;", 1, 11);
        fault("man man 1 1 1 1;", 1, 4);
        fault("man cost 1 1 1 1;", 1, 4);
        fault("man abcdefghi 1 1 1 1;", 1, 4);
        fault("man a 00000 1 1 1;", 1, 6);
        fault("man A 1 1 1 1;", 1, 4);
        fault("man aB 1 1 1 1;", 1, 5);
        fault(";", 1, 0);
        fault("faint 3;;", 1, 8);
        fault("faint -3;", 1, 6);
        fault("faint x;", 1, 6);
        fault("faint 3.", 1, 7);
        fault(" foo 3;", 1, 1);
        fault("mans a 1 1 1 1;", 1, 0);
        fault("good g 1 1; price g 3;", 1, 20);
        fault("good g 1 1; price g = ;", 1, 22);
        fault("good g 1 1; price g = 3 4;", 1, 24);
        fault("good g 1 1; price g = g;", 1, 22);
        fault("good g 1 1; price g = -3;", 1, 22);
        fault("good g 1 1; price g = (3;", 1, 24);
        fault("good g 1 1; price g = 3);", 1, 23);
        fault("good g 1 1; price g = ();", 1, 23);
        fault("good g 1 1; price g = 3 < 4;", 1, 24);
        fault("good g 1 1; price g = (if 1 < 2 then 3 else 4);", 1, 23);
        fault("good g 1 1; price g = 1 + if 1 < 2 then 3 else 4;", 1, 26);
        fault("good g 1 1; price g = if 1 then 3 else 4;", 1, 27);
        fault("good g 1 1; price g = if 1 < 2 < 3 then 3 else 4;", 1, 31);
        fault("good g 1 1; price g = if (1 < 2) then 3 else 4;", 1, 28);
        fault("good g 1 1; price g = if 1 < 2 then 3;", 1, 37);
        fault("good g 1 1; price g = if if 1 < 2 then 3 else 4;", 1, 25);
        fault("good g 1 1; price g = if 1 < 2 then if 1 < 2 then 3 else 4 else 5;", 1, 36);
        fault("good g 1 1; price g = if 1 < 2 then 3 else;", 1, 42);
        fault("good g 1 1; price g = 3", 1, 23);
        fault("good g 1 1; price g = 12345;", 1, 22);
        fault("good g 1 1; price g = 1 * * 2;", 1, 26);
        fault("man a 1 1 1 1; buys a = 3;", 1, 22);
        fault("man a 1 1 1 1; wants a a 3;", 1, 25);
        fault("faint 3; \u0000", 1, 9);
        fault("faint 3; \u000B", 1, 9);
    }

    private static String times(String part, int n) {
        return part.repeat(n);
    }

    private static void room() {
        StringBuilder men = new StringBuilder();
        for (int i = 0; i < 6; i++) {
            men.append("man ").append((char) ('a' + i)).append(" 1 1 1 1;");
        }
        fine(men.toString());
        fault(men + " man g 1 1 1 1;", 2, men.length() + 1);
        fault(men + " man", 2, men.length() + 1);
        fault(men + " man a 1 1 0 1;", 2, men.length() + 1);
        StringBuilder goods = new StringBuilder();
        for (int i = 0; i < 5; i++) {
            goods.append("good ").append((char) ('p' + i)).append(" 1 1;");
        }
        fine(goods.toString());
        fault(goods + "good z 1 1;", 2, goods.length());
        String both = "man a 1 1 1 1;good g 1 1;";
        String buys = both + times("buys a g=1;", 12);
        String wants = both + times("wants a g=1;", 12);
        fine(buys);
        fine(buys + times("wants a g=1;", 12));
        fault(buys + "buys a g=1;", 2, buys.length());
        fault(wants + "wants a g=1;", 2, wants.length());
        String price = "good g 1 1;price g=";
        fine(price + times("if 1<2 then 3 else ", 4) + "5;");
        fault(price + times("if 1<2 then 3 else ", 4) + "if 1<2 then 3 else 5;", 2, price.length() + 76);
        fine(price + times("(", 6) + "1" + times(")", 6) + "+" + times("(", 6) + "1" + times(")", 6) + ";");
        fault(price + times("(", 7) + "1" + times(")", 7) + ";", 2, price.length() + 6);
        fault(price + "if 1<2+" + times("(", 7), 2, price.length() + 13);
        tokens();
    }

    private static void tokens() {
        // A faint has three TOKENS; 133 of them 399.
        String many = times("faint 1;", 133);
        fine(many);
        fault(many + "faint", 1, many.length() + 5);
        fault(many + "faint 1;", 2, many.length() + 6);
        fault(many + "faint ;", 1, many.length() + 6);
        fault(many + "faint 12345;", 1, many.length() + 6);
        fault(many + "faint 1; ;;;;", 2, many.length() + 6);
        // good g 1 1 ; has five, price g = .. ; four and its units and signs: 400 in all.
        String just = "good g 1 1;price g=1" + times("+1", 195) + ";";
        fine(just);
        fault(just + "faint", 2, just.length());
        fault(just + "foo", 1, just.length());
        fault(just + "  ", 0, -1);
        // A FAULT that comes ahead is the first, whatever its number.
        fault("good g 1 1;price g=1+" + times("(", 7) + times("+", 300), 2, 27);
    }

    private static void names() {
        fault("man a 1 1 1 1; man a 1 1 1 1;", 3, 19);
        fault("man a 1 1 1 1; good a 1 1;", 3, 20);
        fault("good a 1 1; good a 1 1;", 3, 17);
        fault("price g = 1; good g 1 1;", 4, 6);
        fault("man a 1 1 1 1; price a = 1;", 4, 21);
        fault("good g 1 1; dips g = 1;", 4, 17);
        fault("good g 1 1; buys g g = 1;", 4, 17);
        fault("man a 1 1 1 1; buys a a = 1;", 4, 22);
        fault("man a 1 1 1 1; good g 1 1; wants a h = 1;", 4, 35);
        fault("man a 1 1 1 1; good g 1 1; wants g a = 1;", 4, 33);
        fault("man a 1 1 1 1; good g 1 1; wants aa g = 1;", 4, 33);
        // Those numbered 1 and 2 go ahead, wherever they stand.
        fault("man a 1 1 1 1; man a 1 1 1 1; foo", 1, 30);
        fault("faint 999; price g = 1; grace", 1, 29);
        // Of 3, 4 and 5 the first by its place.
        fault("faint 101; dips a = 1;", 5, 6);
        fault("dips a = 1; faint 101;", 4, 5);
    }

    private static void numbers() {
        fault("man a 1 1 0 1;", 5, 10);
        fault("man a 1 1 10 1;", 5, 10);
        fault("man a 1 1 1 1000;", 5, 12);
        fault("good g 0 1;", 5, 7);
        fault("good g 10 1;", 5, 7);
        fault("good g 1 1000;", 5, 9);
        fault("faint 101;", 5, 6);
        fault("grace 10;", 5, 6);
        fine("good g 1 1; price g = 9999;");
    }

    private static void faultChangesNothing() {
        SiegeInk x = Check.town("man a 10 0 1 5; good g 1 9; faint 20; grace 3;");
        x.letter(0, 2);
        x.tell(1, 100);
        x.hold(1);
        CHECK.due("read with a FAULT", Check.read(x, "man b 1 1 1 1; man b 1 1 1 1;"), 3);
        CHECK.due("its place", x.place(), 19);
        int[] due = {1, 1, 0, 0, 20, 3, 0, 1, 1, 2, 8, 0, 2, 1, 1};
        for (int what = 0; what < due.length; what++) {
            CHECK.due("after a FAULT: count(" + what + ")", x.count(what), due[what]);
        }
        CHECK.due("larder after a FAULT", x.man(0, 3), 5);
        CHECK.due("undo after a FAULT", x.undo(), true);
        CHECK.due("TOLD after undo", x.count(13), 0);
        CHECK.due("undo once more", x.undo(), true);
        CHECK.due("ink after undo", x.man(0, 0), 10);
    }

    private static void newTextStartsAnew() {
        SiegeInk x = Check.town("man a 10 0 1 5; man b 1 1 1 1; good g 1 9; dips a = 2; price g = 3; buys a g = 1;");
        x.order(0, 0, 1);
        x.lend(0, 1, 2);
        x.days(10);
        x.tell(1, 100);
        x.hold(0);
        Check.read(x, "foo");
        CHECK.due("text in place of the one ahead", Check.read(x, "man c 7 1 1 1; man d 1 0 1 1; good h 2 4;"), 0);
        CHECK.due("place is NONE again", x.place(), -1);
        int[] due = {2, 1, 0, 0, 50, 2, 0, 2, 0, 0, 9, 0, 0, 0, 0};
        for (int what = 0; what < due.length; what++) {
            CHECK.due("new text: count(" + what + ")", x.count(what), due[what]);
        }
        CHECK.due("no DEBTS", x.debt(1, 0), 0);
        CHECK.due("no dips told", x.man(0, 7), 1);
        CHECK.due("no price told", x.good(0, 2), 1);
        CHECK.due("store", x.good(0, 0), 4);
        CHECK.due("none ordered", x.good(0, 3), 0);
        CHECK.due("no lines", x.man(0, 6), 0);
        CHECK.due("days without food", x.man(0, 4), 0);
        CHECK.due("undo", x.undo(), false);
        CHECK.due("restore", x.restore(0), false);
    }
}
