/** Promises 28 to 33: watered ink, SLOTS, and what is counted. */
public final class InkTest {
    private static final Check CHECK = new Check("InkTest");

    public static void main(String[] args) {
        told();
        toldIsUndone();
        watered();
        wateredByNow();
        slots();
        restoredPages();
        counts();
        CHECK.end();
    }

    private static void told() {
        SiegeInk x = Check.town("man a 9 0 1 9; man b 9 0 1 9;");
        CHECK.due("no MEN in the set", x.tell(0, 5), -1);
        CHECK.due("a set of others", x.tell(4, 5), -1);
        CHECK.due("with others", x.tell(5, 5), -1);
        CHECK.due("below 0", x.tell(-1, 5), -1);
        CHECK.due("lowest", x.tell(Integer.MIN_VALUE, 5), -1);
        CHECK.due("strong below 0", x.tell(1, -1), -1);
        CHECK.due("strong above 100", x.tell(1, 101), -1);
        CHECK.due("nothing happened", x.count(13), 0);
        for (int i = 0; i < 20; i++) {
            CHECK.due("tell " + i, x.tell(1 + i % 3, i * 5), i);
        }
        CHECK.due("20 are there", x.tell(3, 100), -1);
        CHECK.due("TOLD ones", x.count(13), 20);
        CHECK.due("forget", x.forget(), 20);
        CHECK.due("forgotten", x.count(13), 0);
        CHECK.due("forget none", x.forget(), 0);
        CHECK.due("tell anew", x.tell(3, 100), 0);
        CHECK.due("without MEN", new SiegeInk().tell(1, 5), -1);
    }

    private static void toldIsUndone() {
        SiegeInk x = Check.town("man a 10 0 1 9; man b 10 0 1 9;");
        x.letter(0, 1);
        x.tell(1, 50);
        x.tell(1, 60);
        x.tell(0, 60);
        x.forget();
        x.tell(2, 70);
        CHECK.due("things done", x.count(12), 5);
        x.hold(0);
        x.feed(1, 2, 3, 4, 5);
        x.back(1);
        CHECK.due("a SLOT and the tape are beside", x.count(12), 5);
        CHECK.due("undo tell", x.undo(), true);
        CHECK.due("TOLD", x.count(13), 0);
        CHECK.due("undo forget", x.undo(), true);
        CHECK.due("TOLD again", x.count(13), 2);
        CHECK.due("the first: 9 more to the 9 left", x.watered(20, 1, 0), 9);
        CHECK.due("both", x.watered(20, 2, -1), 0);
        CHECK.due("undo tell", x.undo(), true);
        CHECK.due("TOLD", x.count(13), 1);
        CHECK.due("undo tell", x.undo(), true);
        CHECK.due("TOLD", x.count(13), 0);
        CHECK.due("the letter stands", x.count(8), 1);
        CHECK.due("undo letter", x.undo(), true);
        CHECK.due("no more", x.undo(), false);
        CHECK.due("the SLOT holds", x.restore(0), true);
        CHECK.due("the letter", x.count(8), 1);
        CHECK.due("the tape is as it was", x.count(11), 19);
    }

    private static void watered() {
        SiegeInk x = Check.town("man a 10 0 1 9; man b 10 0 1 9; man c 0 0 1 9;");
        CHECK.due("nothing KNOWN", x.watered(2, 0, -1), 7);
        int[] ways = {0, 1, 2, 1001, 1002, 2001, 2002};
        for (int i = 0; i < ways.length; i++) {
            CHECK.due("way " + i, x.watered(2, 0, i), ways[i]);
        }
        CHECK.due("not so many", x.watered(2, 0, 7), -1);
        CHECK.due("i below NONE", x.watered(2, 0, -2), -1);
        CHECK.due("most 0", x.watered(0, 0, -1), -1);
        CHECK.due("most 501", x.watered(501, 0, -1), -1);
        CHECK.due("most 500", x.watered(500, 0, -1), 1501);
        CHECK.due("the last way", x.watered(500, 0, 1500), 2500);
        CHECK.due("k below 0", x.watered(2, -1, -1), -1);
        CHECK.due("k beyond those TOLD", x.watered(2, 1, -1), -1);
        // a: 1000 / (10 + w) is 90 for w = 1 alone; c has none, which is 0 STRONG whatever comes to it.
        x.tell(1, 90);
        x.tell(4, 0);
        x.tell(7, 95);
        x.tell(2, 99);
        CHECK.due("by the first", x.watered(500, 1, -1), 1);
        CHECK.due("it is a by 1", x.watered(500, 1, 0), 1);
        CHECK.due("no second", x.watered(500, 1, 1), -1);
        CHECK.due("by three", x.watered(500, 3, 0), 1);
        CHECK.due("by four there is no way", x.watered(500, 4, -1), 0);
        CHECK.due("none such", x.watered(500, 4, 0), -1);
        CHECK.due("by none", x.watered(500, 0, -1), 1501);
        x.forget();
        x.tell(3, 100);
        CHECK.due("none WATERED, or c", x.watered(3, 1, -1), 4);
        CHECK.due("none is told once", x.watered(3, 1, 0), 0);
        CHECK.due("c by 1", x.watered(3, 1, 1), 2001);
        CHECK.due("without MEN there is no way", new SiegeInk().watered(5, 0, 0), -1);
        CHECK.due("how many without MEN", new SiegeInk().watered(5, 0, -1), 0);
        CHECK.due("no such most without MEN", new SiegeInk().watered(0, 0, -1), -1);
    }

    private static void wateredByNow() {
        SiegeInk x = Check.town("man a 10 0 1 0; man b 10 0 1 9; grace 0;");
        x.tell(1, 50);
        CHECK.due("a by 10", x.watered(20, 1, 0), 10);
        x.water(0, 4);
        CHECK.due("a by 6 more", x.watered(20, 1, 0), 6);
        x.days(1);
        CHECK.due("the ink of the dead is ink", x.watered(20, 1, 0), 6);
        x.undo();
        x.undo();
        CHECK.due("what was TOLD stays TOLD", x.count(13), 1);
        CHECK.due("a by 10 again", x.watered(20, 1, 0), 10);
    }

    private static void slots() {
        SiegeInk x = Check.town("man a 50 0 1 9; man b 50 0 1 9; good g 1 9; price g = 2;");
        CHECK.due("hold(-1)", x.hold(-1), false);
        CHECK.due("hold(3)", x.hold(3), false);
        CHECK.due("restore what holds nothing", x.restore(1), false);
        x.order(0, 0, 2);
        x.lend(0, 1, 5);
        x.days(2);
        CHECK.due("hold(1)", x.hold(1), true);
        CHECK.due("SLOTS", x.count(14), 1);
        x.tell(1, 7);
        x.days(30);
        x.letter(0, 1);
        x.blot(1, 0);
        x.hold(2);
        CHECK.due("SLOTS", x.count(14), 2);
        CHECK.due("restore(3)", x.restore(3), false);
        CHECK.due("restore(0)", x.restore(0), false);
        CHECK.due("restore(1)", x.restore(1), true);
        CHECK.due("nothing can be undone then", x.undo(), false);
        CHECK.due("count(12)", x.count(12), 0);
        CHECK.due("what is TOLD stays", x.count(13), 1);
        CHECK.due("the day", x.count(6), 2);
        CHECK.due("all live", x.count(7), 2);
        CHECK.due("larder", x.man(0, 3), 9);
        CHECK.due("drops", x.man(0, 0), 41);
        CHECK.due("lines", x.man(0, 6), 4);
        CHECK.due("store", x.good(0, 0), 7);
        CHECK.due("ordered", x.good(0, 3), 2);
        CHECK.due("debt", x.debt(1, 0), 5);
        CHECK.due("PAGES", x.count(8), 1);
        x.letter(0, 9);
        CHECK.due("it stays there", x.restore(1), true);
        CHECK.due("and is as it was", x.man(0, 0), 41);
        CHECK.due("the other one too", x.restore(2), true);
        CHECK.due("its day", x.count(6), 32);
        CHECK.due("its debts", x.debt(1, 0), 0);
        CHECK.due("its dead", x.count(7), 0);
        Check.read(x, "man a 1 1 1 1;");
        CHECK.due("a new text: SLOTS hold nothing", x.count(14), 0);
        CHECK.due("restore", x.restore(1), false);
    }

    private static void restoredPages() {
        SiegeInk x = Check.town("man a 50 0 1 9; man b 50 0 1 9; good g 1 9;");
        x.letter(0, 3);
        x.letter(0, 4);
        x.hold(0);
        x.undo();
        x.undo();
        x.letter(1, 7);
        x.letter(1, 8);
        x.letter(1, 9);
        x.hold(1);
        CHECK.due("restore", x.restore(0), true);
        CHECK.due("first", x.page(0, 2), 3);
        CHECK.due("second", x.page(1, 2), 4);
        CHECK.due("no third", x.page(2, 2), -1);
        x.restore(1);
        CHECK.due("first of the other", x.page(0, 2), 7);
        CHECK.due("third of the other", x.page(2, 2), 9);
        CHECK.due("held anew", x.hold(0), true);
        x.restore(0);
        CHECK.due("in place of what was held", x.page(0, 2), 7);
    }

    private static void counts() {
        SiegeInk x = Check.town("man a 50 1 1 1; man b 50 2 1 9; man c 0 3 1 9; good g 1 9; good h 1 9;"
            + "buys c g = 1; buys c g = 2; buys c h = 3; wants a g = 1; wants a g = 1; faint 33; grace 0;");
        x.letter(0, 5);
        x.letter(1, 6);
        x.days(2);
        x.tell(1, 1);
        x.tell(2, 1);
        x.tell(3, 1);
        x.hold(2);
        x.feed(1, 2, 3, 4, 5);
        x.back(3);
        int[] due = {3, 2, 3, 2, 33, 0, 2, 2, 2, 11, 95, 17, 6, 3, 1};
        for (int what = 0; what < due.length; what++) {
            CHECK.due("count(" + what + ")", x.count(what), due[what]);
        }
        CHECK.due("count(15)", x.count(15), -1);
        CHECK.due("count(-1)", x.count(-1), -1);
    }
}
