/** The edges of promises 18 to 27: what would be. Each question is asked of a town that it must leave as it is. */
public final class EdgesOfAheadTest {
    private static final Check CHECK = new Check("EdgesOfAheadTest");
    private static final int MIN = Integer.MIN_VALUE;
    private static final int MAX = Integer.MAX_VALUE;
    private static final int NO_LETTER = -1000000;

    /** a and b live, c lives no more. */
    private static final Twins TOWN = new Twins(CHECK,
        "man a 60 40 2 19; man b 30 0 1 13; man c 40 0 1 0; good g 3 9; good h 1 2; price g = 2; dips b = 3;"
            + "buys b h = 1; buys a g = 1; wants a g = 5; wants b g = 9 - cost; faint 40; grace 1;", x -> {
                x.letter(1, 1);
                x.lend(0, 1, 5);
                x.tell(3, 60);
                x.hold(1);
                x.days(2);
            });

    public static void main(String[] args) {
        over();
        last();
        lives();
        livesByPages();
        aidOfWhom();
        aidByDrops();
        aidByDays();
        rival();
        led();
        unwritten();
        unwrittenByDrops();
        bestOfWhom();
        bestByStore();
        bestByDrops();
        bestOfAlikeOnes();
        settlesOfWhat();
        settlesAtTheEnds();
        settlesInRounds();
        CHECK.end();
    }

    /** One who eats on so many days, and bears none without. */
    private static String eats(String name, int days) {
        return "man " + name + " 0 0 1 " + days + ";";
    }

    // ---- promises 18 to 20

    private static void over() {
        int[] days = {0, 1, 2, 198, 199};
        for (int d : days) {
            SiegeInk x = Check.town(eats("a", d) + "grace 0;");
            CHECK.due("over in " + (d + 1), x.over(), d + 1);
        }
        CHECK.due("not in 200", Check.town(eats("a", 200) + "grace 0;").over(), -2);
        CHECK.due("not in 200 by far", Check.town(eats("a", 999) + "grace 0;").over(), -2);
        CHECK.due("the last one counts", Check.town(eats("a", 3) + eats("b", 9) + eats("c", 5) + "grace 0;").over(), 10);
        CHECK.due("one is left", Check.town(eats("a", 3) + eats("b", 200) + "grace 0;").over(), -2);
        CHECK.due("with GRACE 9", Check.town(eats("a", 190) + "grace 9;").over(), 200);
        CHECK.due("with GRACE 9", Check.town(eats("a", 191) + "grace 9;").over(), -2);
        SiegeInk x = Check.town(eats("a", 200) + "grace 0;");
        x.days(1);
        CHECK.due("from now on", x.over(), 200);
        x.days(100);
        x.days(99);
        CHECK.due("tomorrow", x.over(), 1);
        x.days(1);
        CHECK.due("none lives now", x.over(), 0);
        CHECK.due("without MEN", Check.town("good g 1 1;").over(), 0);
        // a has 21 and gains one on each of 7 days; then 14 days, one of GRACE, and the last.
        TOWN.unchanged("over", 23, t -> t.over());
    }

    private static void last() {
        CHECK.due("one", Check.town(eats("a", 0)).last(), 0);
        CHECK.due("the first", Check.town(eats("a", 9) + eats("b", 8)).last(), 0);
        CHECK.due("the second", Check.town(eats("a", 8) + eats("b", 9)).last(), 1);
        CHECK.due("of alike ones the first", Check.town(eats("a", 8) + eats("b", 9) + eats("c", 9)).last(), 1);
        CHECK.due("the sixth", Check.town(eats("a", 1) + eats("b", 2) + eats("c", 3) + eats("d", 4) + eats("e", 5) + eats("f", 6)).last(), 5);
        // Beyond 200 days they are alike.
        CHECK.due("199 and 200 days", Check.town(eats("a", 199) + eats("b", 200) + "grace 0;").last(), 1);
        CHECK.due("200 and 201 days", Check.town(eats("a", 200) + eats("b", 201) + "grace 0;").last(), 0);
        SiegeInk x = Check.town(eats("a", 1) + eats("b", 2) + "grace 0;");
        x.days(9);
        CHECK.due("none lives: of alike ones the first", x.last(), 0);
        CHECK.due("no MEN", Check.town("good g 1 1;").last(), -2);
        TOWN.unchanged("last", 0, t -> t.last());
    }

    private static void lives() {
        int[] days = {0, 1, 2, 198, 199, 200, 201, 999};
        for (int d : days) {
            CHECK.due(d + " days", Check.town(eats("a", d) + "grace 0;").lives(0), Math.min(d, 200));
        }
        CHECK.due("GRACE 9", Check.town(eats("a", 0) + "grace 9;").lives(0), 9);
        CHECK.due("GRACE 9 behind 190", Check.town(eats("a", 190) + "grace 9;").lives(0), 199);
        CHECK.due("GRACE 9 behind 191", Check.town(eats("a", 191) + "grace 9;").lives(0), 200);
        int[] no = {-1, 3, 6, MIN, MAX};
        for (int man : no) {
            TOWN.unchanged("lives(" + man + ")", -1, x -> x.lives(man));
        }
        TOWN.unchanged("of the dead", 0, x -> x.lives(2));
        TOWN.unchanged("of b: 13 days and one of GRACE", 14, x -> x.lives(1));
        SiegeInk x = Check.town("man a 0 0 2 3; grace 2;");
        CHECK.due("a day of food, then what is left is less", x.lives(0), 3);
        x.days(2);
        CHECK.due("without for one day already", x.lives(0), 1);
        x.days(1);
        CHECK.due("for two days already", x.lives(0), 0);
    }

    private static void livesByPages() {
        SiegeInk x = Check.town("man a 999 0 1 0; good g 1 999; buys a g = 1; grace 0;");
        CHECK.due("200 PAGES for 200 days", x.lives(0), 200);
        x.letter(0, 1);
        CHECK.due("199 PAGES", x.lives(0), 199);
        CHECK.due("over with them", x.over(), 200);
        x.days(100);
        x.days(99);
        CHECK.due("none left", x.lives(0), 0);
        CHECK.due("PAGES", x.count(8), 200);
    }

    // ---- promise 21

    private static void aidOfWhom() {
        int[] no = {-1, 3, 6, MIN, MAX};
        for (int man : no) {
            TOWN.unchanged("aid(" + man + ", 0, 5)", -1, x -> x.aid(man, 0, 5));
            TOWN.unchanged("aid(0, " + man + ", 5)", -1, x -> x.aid(0, man, 5));
        }
        TOWN.unchanged("aid(0, 0, 5)", -1, x -> x.aid(0, 0, 5));
        int[] days = {0, -1, 201, MIN, MAX};
        for (int n : days) {
            TOWN.unchanged("aid(0, 1, " + n + ")", -1, x -> x.aid(0, 1, n));
        }
        TOWN.unchanged("aid(0, 1, 1)", 0, x -> x.aid(0, 1, 1));
        TOWN.unchanged("aid(0, 1, 200)", -2, x -> x.aid(0, 1, 200));
        TOWN.unchanged("to the dead", -2, x -> x.aid(0, 2, 1));
        TOWN.unchanged("by the dead, none needed", 0, x -> x.aid(2, 1, 1));
        TOWN.unchanged("by the dead", -2, x -> x.aid(2, 1, 200));
    }

    private static void aidByDrops() {
        for (int has = 0; has <= 8; has++) {
            SiegeInk x = Check.town("man a " + has + " 0 1 9; man b 0 0 1 1; good g 2 99; price g = 3; buys b g = 1; grace 0;");
            // 1 day by his LARDER, then 2 days for each 3 DROPS.
            CHECK.due("for 1 day, of " + has, x.aid(0, 1, 1), 0);
            CHECK.due("for 2 days, of " + has, x.aid(0, 1, 2), has < 3 ? -2 : 3);
            CHECK.due("for 3 days, of " + has, x.aid(0, 1, 3), has < 3 ? -2 : 3);
            CHECK.due("for 4 days, of " + has, x.aid(0, 1, 4), has < 6 ? -2 : 6);
            CHECK.due("for 6 days, of " + has, x.aid(0, 1, 6), -2);
        }
        String rest = " 0 1 9; man b 0 0 1 0; good g 9 99; buys b g = 1; grace 0;";
        CHECK.due("1999 of 9999", Check.town("man a 9999" + rest + "price g = 27; dips b = 74;").aid(0, 1, 9), 1998);
        CHECK.due("2000 of 9999", Check.town("man a 9999" + rest + "price g = 40; dips b = 50;").aid(0, 1, 9), 2000);
        CHECK.due("2001 of 9999", Check.town("man a 9999" + rest + "price g = 29; dips b = 69;").aid(0, 1, 9), -2);
        CHECK.due("2000 of 2000", Check.town("man a 2000" + rest + "price g = 40; dips b = 50;").aid(0, 1, 9), 2000);
        CHECK.due("2000 of 1999", Check.town("man a 1999" + rest + "price g = 40; dips b = 50;").aid(0, 1, 9), -2);
        // DIPPED: 1 drop of 1 in 2 is water, which is too faint; 2 have 1 of SOOT.
        CHECK.due("watered ink", Check.town("man a 1 1 1 9; man b 0 0 1 0; good g 1 9; buys b g = 1; grace 0;").aid(0, 1, 1), 2);
    }

    private static void aidByDays() {
        String text = "man a 500 0 1 9; man b 0 0 1 0; good g 1 999; buys b g = 1; grace 0;";
        int[] days = {1, 2, 199, 200};
        for (int n : days) {
            CHECK.due("one DROP a day: " + n, Check.town(text).aid(0, 1, n), n);
        }
        CHECK.due("each PAGE that a writes is missed by b", Check.town(text + "buys a g = 99;").aid(0, 1, 200), 500);
        // The least, though less would do again with more.
        CHECK.due("3 or 7 and more", Check.town("man a 50 0 1 9; man b 0 0 1 0; good g 9 9;"
            + "buys b g = if ink < 3 then 0 else if ink < 4 then 1 else if ink < 7 then 0 else 1; grace 0;").aid(0, 1, 1), 3);
        // Who BUYS nothing himself is not helped by ink, whatever others BUY.
        String deals = "buys a g = 1;".repeat(11);
        SiegeInk idle = Check.town("man a 50 0 1 9; man b 0 0 1 5; good g 1 99; grace 0;" + deals);
        CHECK.due("5 days by his LARDER", idle.aid(0, 1, 5), 0);
        CHECK.due("6 days", idle.aid(0, 1, 6), -2);
        CHECK.due("by the twelfth of BUYS", Check.town("man a 50 0 1 9; man b 0 0 1 5; good g 1 99; grace 0;" + deals + "buys b g = 1;").aid(0, 1, 6), 1);
        // The ink that goes from a is missed by a alone.
        SiegeInk x = Check.town("man a 5 0 1 0; man b 0 0 1 0; good g 1 9; buys a g = 1; buys b g = 1; grace 0;");
        CHECK.due("all that a has", x.aid(0, 1, 5), 5);
        CHECK.due("four days", x.aid(0, 1, 4), 4);
        CHECK.due("six days", x.aid(0, 1, 6), -2);
    }

    // ---- promise 22

    private static void rival() {
        int[] no = {-1, 3, 6, MIN, MAX};
        for (int man : no) {
            TOWN.unchanged("rival(" + man + ", 0)", -1, x -> x.rival(man, 0));
        }
        int[] noWhat = {-1, 2, MIN, MAX};
        for (int what : noWhat) {
            TOWN.unchanged("rival(0, " + what + ")", -1, x -> x.rival(0, what));
        }
        TOWN.unchanged("rival of a: of alike ones the first", 1, x -> x.rival(0, 0));
        TOWN.unchanged("rival of b", 0, x -> x.rival(1, 0));
        TOWN.unchanged("rival of the dead", 0, x -> x.rival(2, 0));
        TOWN.unchanged("his days", 0, x -> x.rival(2, 1));
        Twins alone = new Twins(CHECK, "man a 9 0 1 0; good g 1 9;", x -> { });
        alone.unchanged("no other one", -2, x -> x.rival(0, 0));
        alone.unchanged("no other one, days", -2, x -> x.rival(0, 1));
        alone.unchanged("no such what", -1, x -> x.rival(0, 2));
        alone.unchanged("no such one", -1, x -> x.rival(1, 0));
        // All of his BUYS are left out, not one of them; those of the others stay.
        SiegeInk x = Check.town("man a 99 0 1 0; man b 99 0 1 9; man c 99 0 1 9; good g 1 20; good h 1 20;"
            + "buys b g = 5; buys b h = 5; buys c g = 9; buys a g = 1; buys a h = 1; buys b g = 5; buys b h = 5; grace 0;");
        CHECK.due("as it is: one of g, two of h", x.lives(0), 3);
        CHECK.due("without b: two of g, all 20 of h", x.rival(0, 1), 22);
        CHECK.due("it is b", x.rival(0, 0), 1);
        x = Check.town("man a 999 0 1 0; man b 99 0 1 9; man c 99 0 1 9; good g 1 999; buys a g = 1; grace 0;");
        CHECK.due("200 days without anyone's: the first", x.rival(0, 0), 1);
        CHECK.due("200 days", x.rival(0, 1), 200);
        CHECK.due("of the first, another one", x.rival(1, 0), 0);
        CHECK.due("who BUYS nothing", x.rival(1, 1), 9);
    }

    // ---- promise 23

    private static void led() {
        int[] no = {-2, -3, 3, 6, MIN, MAX};
        for (int man : no) {
            TOWN.unchanged("led(" + man + ", 0)", -1, x -> x.led(man, 0));
            TOWN.unchanged("led(" + man + ", -1)", -1, x -> x.led(man, -1));
        }
        int[] noGood = {-3, 2, 5, MIN, MAX};
        for (int good : noGood) {
            TOWN.unchanged("led(0, " + good + ")", -1, x -> x.led(0, good));
            TOWN.unchanged("led(-1, " + good + ")", -1, x -> x.led(-1, good));
        }
        // b: a LETTER of 3, two of h for 3 each; a: two of g for 2 each.
        TOWN.unchanged("led(0, 0)", 4, x -> x.led(0, 0));
        TOWN.unchanged("led(0, 1)", 0, x -> x.led(0, 1));
        TOWN.unchanged("led(1, 1)", 6, x -> x.led(1, 1));
        TOWN.unchanged("led(1, -2)", 3, x -> x.led(1, -2));
        TOWN.unchanged("led(1, -1)", 9, x -> x.led(1, -1));
        TOWN.unchanged("led(2, -1)", 0, x -> x.led(2, -1));
        TOWN.unchanged("led(-1, 0)", 4, x -> x.led(-1, 0));
        TOWN.unchanged("led(-1, 1)", 6, x -> x.led(-1, 1));
        TOWN.unchanged("led(-1, -2)", 3, x -> x.led(-1, -2));
        TOWN.unchanged("led(-1, -1)", 13, x -> x.led(-1, -1));
        TOWN.unchanged("DROPS on PAGES", 13, x -> x.count(9));
    }

    // ---- promise 24

    private static void unwritten() {
        int[] no = {-1, 3, 6, MIN, MAX};
        for (int man : no) {
            TOWN.unchanged("unwritten(" + man + ", 1, 0)", NO_LETTER, x -> x.unwritten(man, 1, 0));
            TOWN.unchanged("unwritten(0, 1, " + man + ")", NO_LETTER, x -> x.unwritten(0, 1, man));
        }
        int[] lines = {0, -1, 1000, MIN, MAX};
        for (int n : lines) {
            TOWN.unchanged("unwritten(0, " + n + ", 0)", NO_LETTER, x -> x.unwritten(0, n, 0));
        }
        TOWN.unchanged("by the dead", NO_LETTER, x -> x.unwritten(2, 1, 0));
        TOWN.unchanged("for the dead", 0, x -> x.unwritten(0, 1, 2));
        TOWN.unchanged("for himself", 0, x -> x.unwritten(0, 1, 0));
        // Without ink 10 days by 21, and one of GRACE; with it 22.
        TOWN.unchanged("all his ink", 11, x -> x.unwritten(0, 91, 0));
        TOWN.unchanged("one line more", NO_LETTER, x -> x.unwritten(0, 92, 0));
        // With less ink a buys less, so that b lives longer: fewer days if it is not written.
        SiegeInk x = Check.town("man a 9 0 1 9; man b 9 0 1 0; good g 1 6; buys a g = 2; buys b g = 1; grace 0;");
        CHECK.due("as it is", x.lives(1), 2);
        CHECK.due("a LETTER of 9 lines", x.unwritten(0, 9, 1), 2 - 6);
        CHECK.due("for himself", x.unwritten(0, 9, 0), 4);
    }

    private static void unwrittenByDrops() {
        String text = " 0 1 0; good g 1 999; buys a g = 1; grace 0;";
        CHECK.due("1 of 1", Check.town("man a 1" + text).unwritten(0, 1, 0), 1);
        CHECK.due("2 of 1", Check.town("man a 1" + text).unwritten(0, 2, 0), NO_LETTER);
        CHECK.due("999 of 999", Check.town("man a 999" + text).unwritten(0, 999, 0), 200);
        CHECK.due("999 of 998", Check.town("man a 998" + text).unwritten(0, 999, 0), NO_LETTER);
        // 200 PAGES at most: that of the LETTER is missed on the last day.
        CHECK.due("1 of 999", Check.town("man a 999" + text).unwritten(0, 1, 0), 1);
        CHECK.due("at 2 DIPS 3 of 6", Check.town("man a 6" + text + "dips a = 2;").unwritten(0, 3, 0), 3);
        CHECK.due("at 2 DIPS 4 of 6", Check.town("man a 6" + text + "dips a = 2;").unwritten(0, 4, 0), NO_LETTER);
        CHECK.due("however faint", Check.town("man a 1 9 1 0; good g 1 9; buys a g = 1; grace 0;").unwritten(0, 9, 0), -1);
    }

    // ---- promises 25 and 26

    private static void bestOfWhom() {
        int[] no = {-1, 3, 6, MIN, MAX};
        for (int man : no) {
            TOWN.unchanged("best(" + man + ", 0)", -1, x -> x.best(man, 0));
            TOWN.unchanged("bestOf(" + man + ", 0)", -1, x -> x.bestOf(man, 0));
        }
        int[] noWhat = {-1, 3, MIN, MAX};
        for (int what : noWhat) {
            TOWN.unchanged("best(0, " + what + ")", -1, x -> x.best(0, what));
        }
        int[] noGood = {-1, -2, 2, 5, MIN, MAX};
        for (int good : noGood) {
            TOWN.unchanged("bestOf(0, " + good + ")", -1, x -> x.bestOf(0, good));
        }
        // Seven g are left and no h.
        TOWN.unchanged("BREAD", 21, x -> x.best(0, 0));
        TOWN.unchanged("DROPS", 14, x -> x.best(0, 1));
        TOWN.unchanged("DAYS: 21 and 21 in the LARDER", 21, x -> x.best(0, 2));
        TOWN.unchanged("g", 7, x -> x.bestOf(0, 0));
        TOWN.unchanged("h", 0, x -> x.bestOf(0, 1));
        for (int what = 0; what < 3; what++) {
            int asked = what;
            TOWN.unchanged("of the dead: " + what, 0, x -> x.best(2, asked));
        }
        TOWN.unchanged("of the dead", 0, x -> x.bestOf(2, 0));
        String text = " 1 5; good g 1 9; good h 1 9;";
        CHECK.due("STRONG as FAINT", Check.town("man a 50 50" + text).best(0, 0), 18);
        SiegeInk x = Check.town("man a 49 51" + text);
        CHECK.due("too faint: BREAD", x.best(0, 0), 0);
        CHECK.due("too faint: DROPS", x.best(0, 1), 0);
        CHECK.due("too faint: DAYS by his LARDER", x.best(0, 2), 5);
        CHECK.due("too faint: of g", x.bestOf(0, 0), 0);
        x = Check.town("man a 9 0 7 6;");
        CHECK.due("no GOODS", x.best(0, 0), 0);
        CHECK.due("6 by 7", x.best(0, 2), 0);
        CHECK.due("7 by 7", Check.town("man a 9 0 7 7;").best(0, 2), 1);
        CHECK.due("13 by 7", Check.town("man a 9 0 7 13;").best(0, 2), 1);
        CHECK.due("14 by 7", Check.town("man a 9 0 7 14;").best(0, 2), 2);
    }

    private static void bestByStore() {
        int[] stores = {0, 1, 98, 99, 100, 999};
        for (int store : stores) {
            SiegeInk x = Check.town("man a 9999 0 1 0; good g 2 " + store + "; good h 3 " + store + ";");
            int most = Math.min(99, store);
            CHECK.due("BREAD of STORES " + store, x.best(0, 0), 5 * most);
            CHECK.due("DROPS of STORES " + store, x.best(0, 1), 2 * most);
            CHECK.due("g of STORES " + store, x.bestOf(0, 0), most);
            CHECK.due("h of STORES " + store, x.bestOf(0, 1), most);
        }
        // For nothing: all that may be, with no DROPS at all where FAINT is 0.
        SiegeInk x = Check.town("man a 0 0 1 0; good g 9 999; good h 9 3; good i 9 999; good j 9 999; good k 9 999; faint 0; dips a = 0;");
        CHECK.due("five GOODS for nothing", x.best(0, 0), 9 * (4 * 99 + 3));
        CHECK.due("no DROPS", x.best(0, 1), 0);
        CHECK.due("DAYS", x.best(0, 2), 9 * (4 * 99 + 3));
        CHECK.due("the fifth", x.bestOf(0, 4), 99);
        x = Check.town("man a 5 0 1 0; good g 1 999; good h 9 999; price g = 0; price h = 6;");
        CHECK.due("one for nothing, one too dear", x.best(0, 0), 99);
        CHECK.due("of the dear one", x.bestOf(0, 1), 0);
    }

    private static void bestByDrops() {
        for (int drops = 0; drops <= 13; drops++) {
            SiegeInk x = Check.town("man a " + drops + " 0 1 0; good g 5 9; price g = 2; dips a = 3;");
            CHECK.due("BREAD for " + drops, x.best(0, 0), drops / 6 * 5);
            CHECK.due("DROPS of " + drops, x.best(0, 1), drops / 6 * 6);
        }
        // No more than 2000, whatever he has.
        int[] has = {1999, 2000, 2001, 9999};
        for (int drops : has) {
            SiegeInk x = Check.town("man a " + drops + " 0 1 0; good g 1 999; price g = 20; dips a = 1;");
            CHECK.due("99 at 20, of " + drops, x.best(0, 0), 99);
            x = Check.town("man a " + drops + " 0 1 0; good g 1 999; price g = 40; dips a = 2;");
            CHECK.due("80 DROPS each, of " + drops, x.best(0, 0), drops < 2000 ? 24 : 25);
            CHECK.due("in all, of " + drops, x.best(0, 1), drops < 2000 ? 1920 : 2000);
            x = Check.town("man a " + drops + " 0 1 0; good g 1 1; price g = 69; dips a = 29;");
            CHECK.due("2001 DROPS, of " + drops, x.best(0, 0), 0);
            x = Check.town("man a " + drops + " 0 1 0; good g 1 1; price g = 50; dips a = 40;");
            CHECK.due("2000 DROPS, of " + drops, x.best(0, 0), drops < 2000 ? 0 : 1);
        }
    }

    private static void bestOf(String text, int... due) {
        SiegeInk x = Check.town(text);
        CHECK.due("BREAD: " + text, x.best(0, 0), due[0]);
        CHECK.due("DROPS: " + text, x.best(0, 1), due[1]);
        for (int good = 0; good < x.count(1); good++) {
            CHECK.due("of " + good + ": " + text, x.bestOf(0, good), due[2 + good]);
        }
    }

    private static void bestOfAlikeOnes() {
        // The most BREAD, then the least DROPS, then the least of GOOD 0, of 1, and so on.
        bestOf("man a 6 0 1 0; good g 4 1; good h 4 1; price g = 4; price h = 3;", 4, 3, 0, 1);
        bestOf("man a 6 0 1 0; good g 4 1; good h 4 1; price g = 3; price h = 4;", 4, 3, 1, 0);
        bestOf("man a 6 0 1 0; good g 4 1; good h 4 1; price g = 4; price h = 4;", 4, 4, 0, 1);
        bestOf("man a 6 0 1 0; good g 4 1; good h 4 1; price g = 3; price h = 3;", 8, 6, 1, 1);
        bestOf("man a 6 0 1 0; good g 2 9; good h 3 9; good i 1 9; price g = 2; price h = 3;", 6, 6, 0, 0, 6);
        bestOf("man a 6 0 1 0; good g 2 9; good h 3 9; good i 1 5; price g = 2; price h = 3;", 6, 6, 0, 1, 3);
        bestOf("man a 6 0 1 0; good g 2 9; good h 3 9; good i 1 2; price g = 2; price h = 3;", 6, 6, 0, 2, 0);
        bestOf("man a 7 0 1 0; good g 2 9; good h 3 9; good i 1 0; price g = 2; price h = 3;", 7, 7, 2, 1, 0);
        bestOf("man a 9 0 1 0; good g 1 9; good h 1 9; good i 1 9; good j 1 9; good k 1 4;", 9, 9, 0, 0, 0, 5, 4);
        // The least of GOOD 0 does not go ahead of the most BREAD.
        bestOf("man a 1 0 1 0; good g 1 3; good h 9 2; price g = 0; price h = 2;", 3, 0, 3, 0);
        // By BREAD for a DROP h would be taken, and then nothing more.
        bestOf("man a 10 0 1 0; good g 5 2; good h 7 1; price g = 5; price h = 6;", 10, 10, 2, 0);
    }

    // ---- promise 27

    private static void settlesOfWhat() {
        int[] no = {-1, -2, 2, 5, MIN, MAX};
        for (int good : no) {
            TOWN.unchanged("settles(" + good + ", 0, 0)", -1, x -> x.settles(good, 0, 0));
        }
        int[] prices = {-1, 100, MIN, MAX};
        for (int price : prices) {
            TOWN.unchanged("settles(0, " + price + ", 0)", -1, x -> x.settles(0, price, 0));
        }
        int[] whats = {-1, 3, MIN, MAX};
        for (int what : whats) {
            TOWN.unchanged("settles(0, 0, " + what + ")", -1, x -> x.settles(0, 0, what));
        }
        // 5 and 9 - cost of STORE 7: it rests at 7.
        TOWN.unchanged("rounds from 0", 7, x -> x.settles(0, 0, 0));
        TOWN.unchanged("rests at", 7, x -> x.settles(0, 0, 1));
        TOWN.unchanged("no round", 0, x -> x.settles(0, 0, 2));
        TOWN.unchanged("rounds from 99", 92, x -> x.settles(0, 99, 0));
        TOWN.unchanged("rounds from 7", 0, x -> x.settles(0, 7, 0));
        TOWN.unchanged("an empty STORE, no WANTS", 0, x -> x.settles(1, 50, 0));
        TOWN.unchanged("rests where it is", 50, x -> x.settles(1, 50, 1));
        SiegeInk x = Check.town("man a 9 0 1 0; man b 9 0 1 9; good g 1 4; wants a g = 9; wants b g = 4; grace 0;");
        CHECK.due("13 of 4", x.settles(0, 50, 1), 99);
        x.days(1);
        CHECK.due("the dead want nothing: 4 of 4", x.settles(0, 50, 1), 50);
    }

    private static void settlesAtTheEnds() {
        String text = "man a 9 0 1 0; good g 1 5; wants a g = ";
        SiegeInk more = Check.town(text + "6;");
        CHECK.due("from 0 up to 99", more.settles(0, 0, 0), 99);
        CHECK.due("rests at 99", more.settles(0, 0, 1), 99);
        CHECK.due("from 98", more.settles(0, 98, 0), 1);
        CHECK.due("from 99", more.settles(0, 99, 0), 0);
        CHECK.due("from 99 at 99", more.settles(0, 99, 1), 99);
        CHECK.due("no round", more.settles(0, 99, 2), 0);
        SiegeInk less = Check.town(text + "4;");
        CHECK.due("from 99 down to 0", less.settles(0, 99, 0), 99);
        CHECK.due("rests at 0", less.settles(0, 99, 1), 0);
        CHECK.due("from 1", less.settles(0, 1, 0), 1);
        CHECK.due("from 0", less.settles(0, 0, 0), 0);
        SiegeInk as = Check.town(text + "5;");
        CHECK.due("as STORE from 0", as.settles(0, 0, 0), 0);
        CHECK.due("as STORE from 99", as.settles(0, 99, 1), 99);
    }

    private static void settlesInRounds() {
        String text = "man a 9 0 1 0; good g 1 5; wants a g = ";
        for (int turn = 1; turn <= 99; turn += 7) {
            SiegeInk x = Check.town(text + "if cost < " + turn + " then 9 else 1;");
            for (int price = 0; price <= 99; price += 33) {
                CHECK.due("rounds, turning at " + turn, x.settles(0, price, 0), -2);
                CHECK.due("price, turning at " + turn, x.settles(0, price, 1), -2);
                CHECK.due("round of two, turning at " + turn, x.settles(0, price, 2), 2);
            }
        }
        CHECK.due("turning at 0: below STORE down to 0", Check.town(text + "if cost < 0 then 9 else 1;").settles(0, 50, 1), 0);
        CHECK.due("turning at 100: up to 99", Check.town(text + "if cost < 100 then 9 else 1;").settles(0, 50, 1), 99);
        // One price at which it rests between those from which it goes away.
        SiegeInk x = Check.town(text + "if cost < 30 then 1 else if cost < 31 then 5 else 9;");
        CHECK.due("below", x.settles(0, 29, 1), 0);
        CHECK.due("at", x.settles(0, 30, 1), 30);
        CHECK.due("above", x.settles(0, 31, 1), 99);
        CHECK.due("rounds below", x.settles(0, 29, 0), 29);
        CHECK.due("rounds above", x.settles(0, 31, 0), 68);
    }
}
