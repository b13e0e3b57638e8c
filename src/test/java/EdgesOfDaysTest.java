/** The edges of promises 15 and 16: DAYS, who eats, who BUYS how many, and what is undone. */
public final class EdgesOfDaysTest {
    private static final Check CHECK = new Check("EdgesOfDaysTest");
    private static final int MIN = Integer.MIN_VALUE;
    private static final int MAX = Integer.MAX_VALUE;
    private static final String TEXT = "man a 60 40 2 19; man b 30 0 1 13; good g 3 9; good h 1 40; price g = 2; dips b = 3;"
        + "buys b h = 1; wants a g = 5; faint 40; grace 1;";

    public static void main(String[] args) {
        howManyDays();
        eating();
        grace();
        theDeadStayAsTheyAre();
        sixMen();
        buysFewerByStore();
        buysFewerByDrops();
        buysNone();
        buysOneByOne();
        buysAheadOfEating();
        undoOfEach();
        undoNothing();
        undoTheLast25();
        undoInARound();
        undoBehindOthers();
        undoBehindRefusedCalls();
        CHECK.end();
    }

    // ---- promise 15

    private static void howManyDays() {
        Twins town = new Twins(CHECK, TEXT, x -> {
            x.days(3);
            x.letter(0, 1);
        });
        town.unchanged("days(0)", 3, x -> x.days(0));
        town.unchanged("days(-1)", -1, x -> x.days(-1));
        town.unchanged("days(101)", -1, x -> x.days(101));
        town.unchanged("days(MIN)", -1, x -> x.days(MIN));
        town.unchanged("days(MAX)", -1, x -> x.days(MAX));
        town.undone("days(1)", x -> CHECK.due("days(1)", x.days(1), 4));
        town.undone("days(99)", x -> CHECK.due("days(99)", x.days(99), 102));
        town.undone("days(100)", x -> CHECK.due("days(100)", x.days(100), 103));
        SiegeInk once = Check.town(TEXT);
        SiegeInk byOne = Check.town(TEXT);
        CHECK.due("100 days", once.days(100), 100);
        for (int i = 1; i <= 100; i++) {
            CHECK.due("day by day", byOne.days(1), i);
        }
        Twins.alike(CHECK, "100 days at once or one by one", Twins.now(once), Twins.now(byOne));
        CHECK.due("one thing done", once.count(12), 1);
        SiegeInk empty = new SiegeInk();
        CHECK.due("days without MEN", empty.days(100), 100);
        CHECK.due("and on", empty.days(100), 200);
        CHECK.due("are things done", empty.count(12), 2);
        CHECK.due("undo", empty.undo(), true);
        CHECK.due("the day", empty.count(6), 100);
    }

    private static void eating() {
        for (int hunger = 1; hunger <= 9; hunger++) {
            for (int larder = 0; larder <= 19; larder++) {
                SiegeInk x = Check.town("man a 1 0 " + hunger + " " + larder + "; grace 9;");
                x.days(1);
                String who = "hunger " + hunger + ", larder " + larder;
                CHECK.due("LARDER of " + who, x.man(0, 3), larder >= hunger ? larder - hunger : 0);
                CHECK.due("days without food of " + who, x.man(0, 4), larder >= hunger ? 0 : 1);
            }
        }
        // A day with food, and none of the days without is left.
        SiegeInk x = Check.town("man a 9 0 3 2; good g 3 9; grace 5;");
        x.days(3);
        CHECK.due("three days without", x.man(0, 4), 3);
        x.order(0, 0, 1);
        x.days(1);
        CHECK.due("food", x.man(0, 4), 0);
        x.days(1);
        CHECK.due("one without", x.man(0, 4), 1);
    }

    private static void grace() {
        for (int grace = 0; grace <= 9; grace++) {
            SiegeInk x = Check.town("man a 1 0 1 0; grace " + grace + ";");
            x.days(grace);
            CHECK.due("GRACE " + grace + ": he bears so many", x.man(0, 5), 1);
            CHECK.due("days without food", x.man(0, 4), grace);
            CHECK.due("how many live", x.count(7), 1);
            x.days(1);
            CHECK.due("GRACE " + grace + ": one more", x.man(0, 5), 0);
            CHECK.due("days without food", x.man(0, 4), grace + 1);
            CHECK.due("how many live", x.count(7), 0);
            x.days(9);
            CHECK.due("no more are counted", x.man(0, 4), grace + 1);
        }
    }

    private static void theDeadStayAsTheyAre() {
        SiegeInk x = Check.town("man a 7 2 9 0; man b 9 0 1 99; good g 1 9; buys a g = 1; dips a = 2; grace 0;");
        x.lend(1, 0, 2);
        x.days(1);
        int[] due = {9, 8, 88, 0, 1, 0, 1, 2};
        for (int day = 0; day < 3; day++) {
            for (int what = 0; what < 8; what++) {
                CHECK.due("the dead: man(0, " + what + ")", x.man(0, what), due[what]);
            }
            CHECK.due("his DEBT", x.debt(0, 1), 2);
            CHECK.due("his ORDERS", x.good(0, 3), 1);
            x.days(1);
        }
        CHECK.due("the other one ate", x.man(1, 3), 95);
    }

    /** All the MEN there can be, each with numbers of his own. */
    private static void sixMen() {
        StringBuilder text = new StringBuilder("good g 1 99; good h 1 99; good i 1 99; price g = ink; price h = soot; price i = larder; grace 2; faint 0;");
        for (int i = 0; i < 6; i++) {
            text.append("man m").append((char) ('a' + i)).append(' ').append(i + 1).append(' ').append(2 * i + 1).append(" 2 ").append(3 * i).append(";");
            text.append("dips m").append((char) ('a' + i)).append(" = 1;");
        }
        SiegeInk x = Check.town(text.toString());
        CHECK.due("ink of six", x.good(0, 2), 21 + 36);
        CHECK.due("soot of six", x.good(1, 2), 21);
        CHECK.due("larder of six", x.good(2, 2), 45);
        CHECK.due("DROPS of six", x.count(10), 57);
        CHECK.due("who live", x.count(7), 6);
        // One line by the first, and one day without food for the last as well as for the first.
        CHECK.due("letter", x.letter(0, 1), 1);
        CHECK.due("who live", x.count(7), 6);
        CHECK.due("ink of six", x.good(0, 2), 56);
        CHECK.due("larder of six", x.good(2, 2), 45);
        CHECK.due("a day", x.days(1), 1);
        int[] larders = {0, 1, 4, 7, 10, 13};
        for (int i = 0; i < 6; i++) {
            CHECK.due("LARDER of " + i, x.man(i, 3), larders[i]);
            CHECK.due("without food: " + i, x.man(i, 4), i == 0 ? 1 : 0);
            CHECK.due("lines of " + i, x.man(i, 6), i == 0 ? 1 : 0);
        }
        CHECK.due("larder of six", x.good(2, 2), 35);
        x.days(7);
        CHECK.due("the last is without food for one day", x.man(5, 4), 1);
        CHECK.due("he and one more live", x.count(7), 2);
        CHECK.due("ink of those two", x.good(0, 2), 6 + 11 + 5 + 9);
        CHECK.due("soot of those two", x.good(1, 2), 11);
        CHECK.due("DROPS of six", x.count(10), 56);
        CHECK.due("the day", x.days(2), 10);
        CHECK.due("none lives", x.count(7), 0);
    }

    // ---- BUYS

    private static void buysFewerByStore() {
        int[] stores = {0, 1, 4, 5, 6, 98, 99, 100};
        for (int store : stores) {
            SiegeInk x = Check.town("man a 999 0 9 0; good g 1 " + store + "; buys a g = 5;");
            x.days(1);
            int due = Math.min(5, store);
            CHECK.due("5 of STORE " + store, x.good(0, 3), due);
            CHECK.due("PAGES", x.count(8), due > 0 ? 1 : 0);
            x = Check.town("man a 999 0 9 0; good g 1 " + store + "; buys a g = 500;");
            x.days(1);
            CHECK.due("500 of STORE " + store, x.good(0, 3), Math.min(99, store));
        }
    }

    private static void buysFewerByDrops() {
        for (int drops = 0; drops <= 40; drops++) {
            SiegeInk x = Check.town("man a " + drops + " 0 9 0; good g 1 99; price g = 2; dips a = 3; buys a g = 5;");
            x.days(1);
            int due = Math.min(5, drops / 6);
            CHECK.due("5 with " + drops, x.good(0, 3), due);
            CHECK.due("DROPS left", x.man(0, 0), drops - 6 * due);
            CHECK.due("PAGES", x.count(8), due > 0 ? 1 : 0);
            if (due > 0) {
                CHECK.due("how many", x.page(0, 2), due);
                CHECK.due("DROPS of it", x.page(0, 3), 6 * due);
            }
        }
        SiegeInk x = Check.town("man a 9999 9999 9 0; good g 1 999; price g = 99; dips a = 99; buys a g = 99;");
        x.days(1);
        CHECK.due("9801 for one", x.good(0, 3), 2);
    }

    private static void buysNone() {
        String[] why = {"man a 9 0 9 0; good g 1 9; buys a g = 0;", "man a 9 0 9 0; good g 1 0; buys a g = 5;",
            "man a 0 0 9 0; good g 1 9; faint 0; buys a g = 5;", "man a 49 51 9 0; good g 1 9; buys a g = 5;",
            "man a 0 0 9 0; good g 1 9; price g = 0; buys a g = 5;", "man a 1 0 9 0; good g 1 9; price g = 2; buys a g = 1;"};
        for (String text : why) {
            SiegeInk x = Check.town(text);
            x.days(1);
            CHECK.due("no PAGE: " + text, x.count(8), 0);
            CHECK.due("none ORDERED", x.good(0, 3), 0);
            CHECK.due("but a day", x.count(6), 1);
        }
        SiegeInk x = Check.town("man a 50 50 9 0; good g 1 9; buys a g = 5;");
        x.days(1);
        CHECK.due("just not too faint", x.good(0, 3), 5);
        x = Check.town("man a 0 0 9 0; good g 1 9; price g = 0; faint 0; buys a g = 5;");
        x.days(1);
        CHECK.due("for nothing", x.good(0, 3), 5);
        CHECK.due("a PAGE", x.page(0, 3), 0);
    }

    private static void buysOneByOne() {
        // As they stand in the text, not by MEN: b ahead of a.
        SiegeInk x = Check.town("man a 99 0 9 0; man b 99 0 9 0; good g 1 10; price g = bought + 1; buys b g = 4; buys a g = store; buys b g = 4;");
        x.days(1);
        CHECK.due("two PAGES: none are left for the third", x.count(8), 2);
        CHECK.due("b", x.page(0, 0), 1);
        CHECK.due("for 1 each", x.page(0, 3), 4);
        CHECK.due("a", x.page(1, 0), 0);
        CHECK.due("by the STORE as it is then", x.page(1, 2), 6);
        CHECK.due("for 5 each", x.page(1, 3), 30);
        // The first takes 2 * 2 / 3 of SOOT, so that 1 in 1 is left for the second.
        x = Check.town("man a 2 1 9 0; good g 1 10; faint 60; buys a g = 2; buys a g = 1;");
        x.days(1);
        CHECK.due("SOOT of the first", x.page(0, 4), 1);
        CHECK.due("SOOT of the second", x.page(1, 4), 1);
        // DIPS by lines grow with each.
        x = Check.town("man a 99 0 9 0; good g 1 10; dips a = bought + 1; buys a g = 2; buys a g = 2;");
        x.days(1);
        CHECK.due("first", x.page(0, 3), 2);
        CHECK.due("second", x.page(1, 3), 6);
    }

    private static void buysAheadOfEating() {
        SiegeInk x = Check.town("man a 9 0 3 0; good g 3 9; buys a g = 1; grace 0;");
        x.days(1);
        CHECK.due("he eats what he bought that day", x.man(0, 5), 1);
        CHECK.due("and none is left", x.man(0, 3), 0);
        CHECK.due("on day 0", x.page(0, 5), 0);
        x.days(1);
        CHECK.due("on day 1", x.page(1, 5), 1);
        // He who dies at the end of a day has bought on it; the dead BUY nothing.
        x = Check.town("man a 99 0 9 0; good g 1 99; buys a g = 1; grace 2;");
        x.days(3);
        CHECK.due("three days", x.good(0, 3), 3);
        CHECK.due("he lives no more", x.man(0, 5), 0);
        x.days(3);
        CHECK.due("no more", x.good(0, 3), 3);
    }

    // ---- promise 16

    private static void undoOfEach() {
        Twins town = new Twins(CHECK, TEXT, x -> {
            x.lend(0, 1, 9);
            x.tell(3, 60);
            x.tell(1, 50);
            x.hold(2);
            x.days(2);
        });
        town.undone("order", x -> x.order(0, 0, 3));
        town.undone("letter", x -> x.letter(1, 4));
        town.undone("lend", x -> x.lend(0, 1, 7));
        town.undone("repay", x -> x.repay(1, 0, 5));
        town.undone("blot", x -> x.blot(1, 0));
        town.undone("water", x -> x.water(1, 50));
        town.undone("days(1)", x -> x.days(1));
        town.undone("days(100)", x -> x.days(100));
        town.undone("tell", x -> x.tell(2, 100));
        town.undone("forget", x -> x.forget());
        // Questions and refused calls are no things done: what is undone is what was done ahead of them.
        town.undone("order, and much that is none", x -> {
            x.order(0, 0, 3);
            x.days(0);
            x.order(0, 0, 99);
            x.letter(0, 0);
            x.lend(0, 0, 1);
            x.repay(0, 1, 1);
            x.blot(0, 1);
            x.water(0, 0);
            x.days(101);
            x.tell(0, 5);
            x.restore(0);
            x.hold(3);
            x.over();
            x.last();
            x.lives(0);
            x.aid(0, 1, 9);
            x.rival(0, 0);
            x.led(0, 0);
            x.unwritten(0, 1, 0);
            x.best(0, 0);
            x.bestOf(0, 0);
            x.settles(0, 0, 0);
            x.watered(9, 0, -1);
        });
    }

    private static void undoNothing() {
        new Twins(CHECK, TEXT, x -> { }).refuses("undo of none", x -> x.undo());
        new Twins(CHECK, TEXT, x -> {
            x.letter(0, 1);
            x.undo();
        }).refuses("undo of what was undone", x -> x.undo());
    }

    private static void undoTheLast25() {
        for (int deeds = 23; deeds <= 27; deeds++) {
            SiegeInk x = Check.town(TEXT);
            for (int i = 0; i < deeds; i++) {
                CHECK.due("letter " + i, x.letter(0, 1), 1);
                CHECK.due("things that can be undone", x.count(12), Math.min(25, i + 1));
            }
            int can = Math.min(25, deeds);
            for (int i = 1; i <= can; i++) {
                CHECK.due("undo " + i + " of " + deeds, x.undo(), true);
                CHECK.due("PAGES", x.count(8), deeds - i);
                CHECK.due("things that can be undone", x.count(12), can - i);
            }
            CHECK.due("no more of " + deeds, x.undo(), false);
            CHECK.due("PAGES that stay", x.count(8), deeds - can);
        }
    }

    /** One of many deeds, none of which is refused in TEXT's town for 80 of them. */
    private static void deed(SiegeInk x, int i) {
        switch (i % 7) {
            case 0: CHECK.due("lend", x.lend(0, 1, 3), true); break;
            case 1: CHECK.due("water", x.water(0, 2) >= 0, true); break;
            case 2: CHECK.due("repay", x.repay(1, 0, 1), 1); break;
            case 3: CHECK.due("letter", x.letter(0, 1), 1); break;
            case 4: CHECK.due("days", x.days(1) > 0, true); break;
            case 5: CHECK.due("tell", x.tell(1 + i % 3, i) >= 0, true); break;
            default: CHECK.due("blot", x.blot(1, 0) > 0, true); break;
        }
    }

    private static SiegeInk deeds(int n) {
        SiegeInk x = Check.town("man a 900 40 1 199; man b 30 0 1 199; good g 3 9; price g = 2; buys b g = 1;");
        for (int i = 0; i < n; i++) {
            deed(x, i);
        }
        return x;
    }

    private static void undoInARound() {
        for (int n = 25; n <= 80; n += 5) {
            SiegeInk x = deeds(n);
            for (int i = 0; i < 25; i++) {
                CHECK.due("undo " + i + " of " + n, x.undo(), true);
            }
            Twins.alike(CHECK, n + " deeds less 25", Twins.now(x), Twins.now(deeds(n - 25)));
            CHECK.due("no more", x.undo(), false);
            // It goes on from there.
            for (int i = n - 25; i < n; i++) {
                deed(x, i);
            }
            Twins.alike(CHECK, n + " deeds, 25 of them done anew", Twins.now(x), Twins.now(deeds(n)));
            CHECK.due("things that can be undone", x.count(12), 25);
        }
        SiegeInk x = deeds(40);
        for (int i = 0; i < 12; i++) {
            x.undo();
        }
        for (int i = 28; i < 33; i++) {
            deed(x, i);
        }
        CHECK.due("13 left and 5 more", x.count(12), 18);
        Twins.alike(CHECK, "12 undone, 5 done", Twins.now(x), Twins.now(deeds(33)));
        for (int i = 0; i < 18; i++) {
            CHECK.due("undo", x.undo(), true);
        }
        CHECK.due("no more", x.undo(), false);
        Twins.alike(CHECK, "18 more undone", Twins.now(x), Twins.now(deeds(15)));
    }

    private static void undoBehindOthers() {
        SiegeInk x = Check.town(TEXT);
        x.letter(0, 1);
        x.letter(0, 1);
        CHECK.due("a text with a FAULT", Check.read(x, "faint"), 1);
        CHECK.due("undo behind it", x.undo(), true);
        CHECK.due("a text without", Check.read(x, TEXT), 0);
        CHECK.due("undo behind it", x.undo(), false);
        x.letter(0, 1);
        x.hold(0);
        x.letter(0, 1);
        CHECK.due("restore(1): nothing is held", x.restore(1), false);
        CHECK.due("things that can be undone", x.count(12), 2);
        CHECK.due("restore(0)", x.restore(0), true);
        CHECK.due("undo behind it", x.undo(), false);
        CHECK.due("PAGES", x.count(8), 1);
        x.letter(0, 1);
        CHECK.due("what was done since", x.undo(), true);
        CHECK.due("PAGES", x.count(8), 1);
        CHECK.due("no more", x.undo(), false);
    }

    /** With 25 things that can be undone, what is refused takes none of them away. */
    private static void undoBehindRefusedCalls() {
        for (int n = 24; n <= 30; n++) {
            SiegeInk x = deeds(n);
            x.order(0, 0, 99);
            x.letter(1, 999);
            x.lend(0, 1, 9999);
            x.repay(0, 1, 1);
            x.blot(0, 1);
            x.water(0, 9999);
            x.days(0);
            x.days(101);
            x.tell(0, 5);
            x.undo();
            x.order(0, 0, 99);
            x.letter(1, 999);
            x.days(0);
            for (int i = 1; i < Math.min(n, 25); i++) {
                CHECK.due("undo " + i + " of " + n, x.undo(), true);
            }
            CHECK.due("no more of " + n, x.undo(), false);
            Twins.alike(CHECK, n + " deeds less the last 25", Twins.now(x), Twins.now(deeds(Math.max(0, n - 25))));
        }
    }
}
