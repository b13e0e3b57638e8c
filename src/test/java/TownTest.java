/** Promises 6 to 17: what is, what is done, and what is undone. */
public final class TownTest {
    private static final Check CHECK = new Check("TownTest");

    public static void main(String[] args) {
        men();
        goods();
        lawsOfPrices();
        lawsOfDips();
        lawsCount();
        orders();
        letters();
        pagesAreFull();
        debts();
        theDeadNeitherLendNorOwe();
        wateredInk();
        daysGoBy();
        buysAsManyFewer();
        undone();
        pages();
        CHECK.end();
    }

    private static int price(String law) {
        return Check.town("man a 30 10 2 7; man b 5 0 1 1; good g 3 20; price g = " + law + ";").good(0, 2);
    }

    private static void lawIs(String law, int due) {
        CHECK.due("price g = " + law, price(law), due);
    }

    private static void men() {
        SiegeInk x = Check.town("man a 2 1 3 4; man b 0 0 1 0; dips b = 5;");
        int[] a = {3, 2, 66, 4, 0, 1, 0, 1};
        int[] b = {0, 0, 0, 0, 0, 1, 0, 5};
        for (int what = 0; what < 8; what++) {
            CHECK.due("man(0, " + what + ")", x.man(0, what), a[what]);
            CHECK.due("man(1, " + what + ")", x.man(1, what), b[what]);
        }
        CHECK.due("man(0, 8)", x.man(0, 8), -1);
        CHECK.due("man(0, -1)", x.man(0, -1), -1);
        CHECK.due("man(2, 0)", x.man(2, 0), -1);
        CHECK.due("man(-1, 0)", x.man(-1, 0), -1);
        CHECK.due("man(MIN, 0)", x.man(Integer.MIN_VALUE, 0), -1);
    }

    private static void goods() {
        SiegeInk x = Check.town("man a 99 0 1 0; good g 3 20; good h 1 0; price g = 2; price g = 4;");
        x.order(0, 0, 6);
        int[] g = {14, 3, 4, 6};
        int[] h = {0, 1, 1, 0};
        for (int what = 0; what < 4; what++) {
            CHECK.due("good(0, " + what + ")", x.good(0, what), g[what]);
            CHECK.due("good(1, " + what + ")", x.good(1, what), h[what]);
        }
        CHECK.due("good(0, 4)", x.good(0, 4), -1);
        CHECK.due("good(0, -1)", x.good(0, -1), -1);
        CHECK.due("good(2, 0)", x.good(2, 0), -1);
        CHECK.due("good(-1, 0)", x.good(-1, 0), -1);
    }

    private static void lawsOfPrices() {
        lawIs("ink", 45);
        lawIs("soot", 35);
        lawIs("larder", 8);
        lawIs("day", 0);
        lawIs("store", 20);
        lawIs("bought", 0);
        lawIs("cost", 0);
        lawIs("100", 99);
        lawIs("3 - 5", 0);
        lawIs("2 + 3 * 4", 14);
        lawIs("20 - 3 - 4", 13);
        lawIs("(2 + 3) * 4", 20);
        lawIs("60 / 4 / 3", 5);
        lawIs("60 / 4 * 3", 45);
        lawIs("20 - (3 - 4)", 21);
        lawIs("30 + (0 - 7) / 2", 27);
        lawIs("1 + 5 / 0", 0);
        lawIs("if 1 < 2 then 3 else 5 / 0", 3);
        lawIs("if 2 < 2 then 5 / 0 else 4", 4);
        lawIs("if 2 < 1 then 3 else 5 / 0", 0);
        lawIs("if 1 / 0 < 1 then 3 else 4", 0);
        lawIs("if 1 < 1 / 0 then 3 else 4", 0);
        lawIs("if 2 < 1 then 3 else if 1 / 0 < 1 then 4 else 5", 0);
        lawIs("if 1 < 2 then 3 else if 1 / 0 < 1 then 4 else 5", 3);
        lawIs("if 2 < 1 then 3 else if 5 < 5 then 4 else if 5 < 6 then 7 else if 1 < 2 then 8 else 9", 7);
        lawIs("if 0 - 1 < 0 then 6 else 7", 6);
        // 65536 * 65536 is 0 in 32 bits; 2147483647 + 1 is below 0, and by -1 stays what it is.
        lawIs("(4096 * 16) * (4096 * 16) + 8", 8);
        lawIs("if 4096 * 4096 * 128 < 0 then 1 else 2", 1);
        lawIs("if 4096 * 4096 * 128 / (0 - 1) < 0 then 1 else 2", 1);
        lawIs("((((((1 + 2) * 2) + 2) * 2) + 2) * 2)", 36);
        SiegeInk x = Check.town("man a 30 10 2 0; man b 5 0 1 9; good g 3 20; price g = ink + soot + larder; grace 0;");
        CHECK.due("price by all", x.good(0, 2), 45 + 35 + 9);
        x.days(1);
        CHECK.due("price by those who live", x.good(0, 2), 5 + 5 + 8);
        x = Check.town("man a 30 10 2 0; good g 3 20; price g = day * 10 + bought;");
        x.days(3);
        CHECK.due("price by day", x.good(0, 2), 30);
    }

    private static void lawsOfDips() {
        SiegeInk x = Check.town("man a 30 10 2 7; man b 5 0 1 1; good g 3 20;"
            + "dips a = ink + soot / 2 + larder + store + cost + day; dips b = bought + 1;");
        CHECK.due("dips by his own", x.man(0, 7), 40 + 15 + 7);
        CHECK.due("dips by lines", x.man(1, 7), 1);
        x.letter(1, 2);
        CHECK.due("dips by lines behind a letter", x.man(1, 7), 3);
        CHECK.due("and so a letter takes", x.letter(1, 1), 3);
        x = Check.town("man a 999 0 1 1; man b 1 1 1 1; dips a = ink; dips b = 0 - 1;");
        CHECK.due("dips held to 99", x.man(0, 7), 99);
        CHECK.due("dips held to 0", x.man(1, 7), 0);
    }

    private static void lawsCount() {
        SiegeInk x = Check.town("man a 1 1 1 1; good g 1 1; good h 1 1; buys a g = 1; buys a g = 1; wants a g = 2;");
        CHECK.due("two BUYS of the same stand", x.count(2), 2);
        CHECK.due("WANTS", x.count(3), 1);
        // BUYS sees his own, the GOOD's, and the PRICE held: it tells 3 + 2 - 2 + 0 + 9 - 5 - 4.
        x = Check.town("man a 3 0 9 2; man b 70 0 1 50; good g 1 9; price g = 0 - 5;"
            + "buys a g = soot + ink - larder - 2 + day + cost + bought + store - 9;");
        x.days(1);
        CHECK.due("bought by his own and the GOOD's", x.good(0, 3), 2);
    }

    private static void orders() {
        SiegeInk x = Check.town("man a 60 40 1 2; man b 10 11 1 0; man c 3 0 1 0; good g 4 9; good h 1 3;"
            + "price g = 3; dips a = 2; faint 60;");
        CHECK.due("order", x.order(0, 0, 2), 12);
        CHECK.due("drops", x.man(0, 0), 88);
        CHECK.due("soot: 60 * 12 / 100 went", x.man(0, 1), 53);
        CHECK.due("larder", x.man(0, 3), 10);
        CHECK.due("lines", x.man(0, 6), 6);
        CHECK.due("store", x.good(0, 0), 7);
        CHECK.due("ordered", x.good(0, 3), 2);
        CHECK.due("too faint", x.order(1, 0, 1), -2);
        CHECK.due("as strong as FAINT", x.order(2, 1, 1), 1);
        CHECK.due("just enough drops", x.order(2, 1, 2), 2);
        CHECK.due("no ink is too faint", x.order(2, 0, 1), -2);
        CHECK.due("store has none", x.order(0, 1, 1), -2);
        CHECK.due("store has too few", x.order(0, 0, 8), -2);
        CHECK.due("store has far too few", x.order(0, 0, Integer.MAX_VALUE), -2);
        CHECK.due("n 0", x.order(0, 0, 0), -1);
        CHECK.due("n below 0", x.order(0, 0, Integer.MIN_VALUE), -1);
        CHECK.due("no such man", x.order(3, 0, 1), -1);
        CHECK.due("no such good", x.order(0, 2, 1), -1);
        CHECK.due("nothing happened", x.count(8), 3);
        x = Check.town("man a 5 0 1 0; good g 1 9; price g = 3; grace 0;");
        CHECK.due("too few drops", x.order(0, 0, 2), -2);
        CHECK.due("enough drops", x.order(0, 0, 1), 3);
        x.days(2);
        CHECK.due("he lives no more", x.order(0, 0, 1), -2);
        // For nothing: a PAGE all the same; at FAINT 0 no ink is strong enough.
        x = Check.town("man a 0 0 1 0; good g 1 9; price g = 0; faint 0;");
        CHECK.due("for 0 lines", x.order(0, 0, 9), 0);
        CHECK.due("a PAGE", x.page(0, 2), 9);
        CHECK.due("larder", x.man(0, 3), 9);
    }

    private static void letters() {
        SiegeInk x = Check.town("man a 10 90 1 0; man b 999 0 1 0; grace 0;");
        CHECK.due("however faint", x.letter(0, 15), 15);
        CHECK.due("soot: 10 * 15 / 100 went", x.man(0, 1), 9);
        CHECK.due("lines", x.man(0, 6), 15);
        CHECK.due("too few", x.letter(0, 86), -2);
        CHECK.due("all", x.letter(0, 85), 85);
        CHECK.due("none left", x.letter(0, 1), -2);
        CHECK.due("no lines", x.letter(1, 0), -1);
        CHECK.due("lines below 0", x.letter(1, -1), -1);
        CHECK.due("too many lines", x.letter(1, 1000), -1);
        CHECK.due("999 lines", x.letter(1, 999), 999);
        CHECK.due("no such man", x.letter(2, 1), -1);
        x = Check.town("man a 10 0 1 0; grace 0; ");
        x.days(1);
        CHECK.due("he lives no more", x.letter(0, 1), -2);
    }

    private static void pagesAreFull() {
        SiegeInk x = Check.town("man a 999 0 1 0; good g 1 999; buys a g = 1;");
        for (int i = 0; i < 199; i++) {
            CHECK.due("letter " + i, x.letter(0, 1), 1);
        }
        CHECK.due("the 200th PAGE", x.order(0, 0, 1), 1);
        CHECK.due("full: letter", x.letter(0, 1), -2);
        CHECK.due("full: order", x.order(0, 0, 1), -2);
        CHECK.due("full: letter not written", x.unwritten(0, 1, 0), -1000000);
        x.days(1);
        CHECK.due("full: BUYS", x.good(0, 3), 1);
        CHECK.due("PAGES", x.count(8), 200);
        CHECK.due("the last PAGE", x.page(199, 1), 0);
        CHECK.due("none behind", x.page(200, 1), -1);
        // BEST asks for no PAGE.
        CHECK.due("full: best", x.best(0, 0), 99);
        x.undo();
        x.undo();
        CHECK.due("room again", x.letter(0, 1), 1);
    }

    private static void debts() {
        SiegeInk x = Check.town("man a 50 50 1 9; man b 7 0 1 9; man c 0 0 1 9;");
        CHECK.due("lend", x.lend(0, 1, 25), true);
        CHECK.due("soot of a: 50 * 25 / 100 went", x.man(0, 1), 38);
        CHECK.due("drops of a", x.man(0, 0), 75);
        CHECK.due("soot of b", x.man(1, 1), 19);
        CHECK.due("drops of b", x.man(1, 0), 32);
        CHECK.due("debt", x.debt(1, 0), 25);
        CHECK.due("no debt the other way", x.debt(0, 1), 0);
        CHECK.due("lend more", x.lend(0, 1, 75), true);
        CHECK.due("debt is more", x.debt(1, 0), 100);
        CHECK.due("too few", x.lend(0, 1, 1), false);
        CHECK.due("n 0", x.lend(1, 0, 0), false);
        CHECK.due("n below 0", x.lend(1, 0, -5), false);
        CHECK.due("n 1", x.lend(1, 2, 1), true);
        CHECK.due("n 1 back", x.repay(2, 1, 1), 1);
        CHECK.due("to himself", x.lend(1, 1, 1), false);
        CHECK.due("no such one", x.lend(1, 3, 1), false);
        CHECK.due("no such one", x.lend(-1, 1, 1), false);
        CHECK.due("repay", x.repay(1, 0, 30), 30);
        CHECK.due("debt is less", x.debt(1, 0), 70);
        CHECK.due("drops are back", x.man(0, 0), 30);
        CHECK.due("soot is back: 57 * 30 / 107", x.man(0, 1), 15);
        CHECK.due("no more than he owes", x.repay(1, 0, 1000), 70);
        CHECK.due("none is owed", x.repay(1, 0, 1), -1);
        CHECK.due("lend all", x.lend(1, 2, 7), true);
        CHECK.due("lend it on", x.lend(2, 0, 4), true);
        CHECK.due("no more than he has", x.repay(2, 1, 100), 3);
        CHECK.due("he has none", x.repay(2, 1, 100), -1);
        CHECK.due("n 0", x.repay(0, 2, 0), -1);
        CHECK.due("n below 0", x.repay(0, 2, -1), -1);
        CHECK.due("to himself", x.repay(0, 0, 1), -1);
        CHECK.due("no such one", x.repay(0, 3, 1), -1);
        CHECK.due("debt to himself", x.debt(0, 0), -1);
        CHECK.due("debt of no such one", x.debt(3, 0), -1);
        CHECK.due("debt to no such one", x.debt(0, -1), -1);
        CHECK.due("blot", x.blot(2, 1), 4);
        CHECK.due("blotted", x.debt(2, 1), 0);
        CHECK.due("blot again", x.blot(2, 1), -1);
        CHECK.due("blot to himself", x.blot(0, 0), -1);
        CHECK.due("blot of no such one", x.blot(0, 3), -1);
    }

    private static void theDeadNeitherLendNorOwe() {
        SiegeInk x = Check.town("man a 50 0 1 0; man b 50 0 1 99; man c 9 0 1 99; grace 0;");
        x.lend(0, 1, 10);
        x.lend(1, 0, 20);
        x.days(1);
        CHECK.due("a lives no more", x.man(0, 5), 0);
        CHECK.due("what he has stays", x.man(0, 0), 60);
        CHECK.due("the dead lend not", x.lend(0, 1, 1), false);
        CHECK.due("nor are lent to", x.lend(1, 0, 1), false);
        CHECK.due("nor pay back", x.repay(0, 1, 1), -1);
        CHECK.due("nor are paid", x.repay(1, 0, 1), -1);
        CHECK.due("debts stay", x.debt(0, 1), 20);
        CHECK.due("and can be blotted", x.blot(0, 1), 20);
        CHECK.due("and watered", x.water(0, 60), 50);
    }

    private static void wateredInk() {
        SiegeInk x = Check.town("man a 2 0 1 0; man b 0 0 1 0; man c 9999 9999 1 9; man d 9999 9999 1 9;");
        CHECK.due("water", x.water(0, 1), 66);
        CHECK.due("drops", x.man(0, 0), 3);
        CHECK.due("soot", x.man(0, 1), 2);
        CHECK.due("water where no ink is", x.water(1, 5), 0);
        CHECK.due("n 0", x.water(0, 0), -1);
        CHECK.due("n below 0", x.water(0, -1), -1);
        CHECK.due("no such one", x.water(4, 1), -1);
        CHECK.due("more than 9999 in all", x.water(0, 9999), -1);
        CHECK.due("far more", x.water(0, Integer.MAX_VALUE), -1);
        CHECK.due("9999 in all", x.water(0, 9998), 0);
        CHECK.due("full", x.water(2, 1), -1);
        x.lend(2, 3, 19998);
        CHECK.due("lent beyond 9999", x.man(3, 0), 39996);
        CHECK.due("no more water", x.water(3, 1), -1);
        CHECK.due("soot of much ink", x.letter(3, 999), 999);
        CHECK.due("half of it, rounded down", x.page(0, 4), 499);
        CHECK.due("lend much back", x.lend(3, 2, 38997), true);
        CHECK.due("all soot came", x.man(2, 1), 19998 - 499);
    }

    private static void daysGoBy() {
        SiegeInk x = Check.town("man a 9 0 2 5; man b 9 0 3 3; good g 1 9; grace 1;");
        CHECK.due("days(0)", x.days(0), 0);
        CHECK.due("0 is no thing done", x.count(12), 0);
        CHECK.due("days(1)", x.days(1), 1);
        CHECK.due("larder", x.man(0, 3), 3);
        CHECK.due("larder of b", x.man(1, 3), 0);
        x.days(1);
        CHECK.due("b is without", x.man(1, 4), 1);
        CHECK.due("and lives", x.man(1, 5), 1);
        x.days(1);
        CHECK.due("a eats what is left", x.man(0, 3), 0);
        CHECK.due("and is without", x.man(0, 4), 1);
        CHECK.due("b is without again", x.man(1, 4), 2);
        CHECK.due("that is more than GRACE", x.man(1, 5), 0);
        CHECK.due("how many live", x.count(7), 1);
        x.order(0, 0, 2);
        x.days(1);
        CHECK.due("who eats is no longer without", x.man(0, 4), 0);
        CHECK.due("the dead are without no longer", x.man(1, 4), 2);
        CHECK.due("days(100)", x.days(100), 104);
        CHECK.due("days(101)", x.days(101), -1);
        CHECK.due("days(-1)", x.days(-1), -1);
        CHECK.due("the day", x.count(6), 104);
    }

    private static void buysAsManyFewer() {
        SiegeInk x = Check.town("man a 10 0 9 0; man b 50 0 9 9; man c 1 2 1 9; good g 2 12; good h 1 99; price g = 2;"
            + "dips b = 2; buys a g = 100; buys b g = 50; buys b h = 0 - 4; buys c h = 5; buys b h = 200; grace 9;");
        x.days(1);
        CHECK.due("a: as many as his DROPS", x.page(0, 2), 5);
        CHECK.due("b: as many as the STORE has", x.page(1, 2), 7);
        CHECK.due("b: below 0 is none; c: too faint; b: what is left", x.page(2, 2), 11);
        CHECK.due("of h", x.page(2, 1), 1);
        CHECK.due("by b", x.page(2, 0), 1);
        CHECK.due("drops of it", x.page(2, 3), 22);
        CHECK.due("on day 0", x.page(2, 5), 0);
        CHECK.due("no other PAGES", x.count(8), 3);
        CHECK.due("a ate 9 of 10", x.man(0, 3), 1);
        CHECK.due("b ate 9 of 9 + 14 + 11", x.man(1, 3), 25);
        x = Check.town("man a 99 0 1 0; good g 1 999; price g = 0; buys a g = 500;");
        x.days(1);
        CHECK.due("no more than 99", x.good(0, 3), 99);
        // BUYS go one by one: the next one sees what the one ahead did.
        x = Check.town("man a 99 0 1 0; good g 1 999; price g = bought + 1; buys a g = 3; buys a g = cost;");
        x.days(1);
        CHECK.due("first", x.page(0, 3), 3);
        CHECK.due("second", x.page(1, 2), 4);
        CHECK.due("its DROPS", x.page(1, 3), 16);
        // Who dies that day has bought that day; then no more.
        x = Check.town("man a 99 0 9 0; good g 1 999; buys a g = 1; grace 1;");
        x.days(5);
        CHECK.due("bought while he lived", x.good(0, 3), 2);
    }

    private static void undone() {
        SiegeInk x = Check.town("man a 90 10 1 9; man b 9 0 1 9; good g 1 9; buys b g = 1;");
        x.order(0, 0, 1);
        x.letter(0, 1);
        x.lend(0, 1, 10);
        x.repay(1, 0, 3);
        x.blot(1, 0);
        x.water(0, 5);
        x.days(3);
        CHECK.due("things done", x.count(12), 7);
        x.over();
        x.lives(0);
        x.best(0, 0);
        x.order(0, 0, 99);
        x.days(0);
        x.days(-1);
        CHECK.due("questions, and what can't be, are none", x.count(12), 7);
        CHECK.due("undo days", x.undo(), true);
        CHECK.due("the day", x.count(6), 0);
        CHECK.due("PAGES", x.count(8), 2);
        CHECK.due("undo water", x.undo(), true);
        CHECK.due("drops", x.man(0, 0), 91);
        CHECK.due("undo blot", x.undo(), true);
        CHECK.due("debt", x.debt(1, 0), 7);
        CHECK.due("undo repay", x.undo(), true);
        CHECK.due("debt", x.debt(1, 0), 10);
        CHECK.due("undo lend", x.undo(), true);
        CHECK.due("debt", x.debt(1, 0), 0);
        CHECK.due("drops of b", x.man(1, 0), 9);
        CHECK.due("undo letter", x.undo(), true);
        CHECK.due("lines", x.man(0, 6), 1);
        CHECK.due("undo order", x.undo(), true);
        CHECK.due("store", x.good(0, 0), 9);
        CHECK.due("ordered", x.good(0, 3), 0);
        CHECK.due("larder", x.man(0, 3), 9);
        CHECK.due("soot", x.man(0, 1), 90);
        CHECK.due("no PAGES", x.count(8), 0);
        CHECK.due("there is none", x.undo(), false);
        for (int i = 0; i < 30; i++) {
            x.letter(0, 1);
        }
        CHECK.due("the last 25", x.count(12), 25);
        for (int i = 0; i < 25; i++) {
            CHECK.due("undo " + i, x.undo(), true);
            CHECK.due("PAGES left", x.count(8), 29 - i);
        }
        CHECK.due("no more", x.undo(), false);
        CHECK.due("five stay", x.man(0, 6), 5);
        x.letter(1, 2);
        CHECK.due("the PAGE written anew", x.page(5, 0), 1);
        CHECK.due("undo it", x.undo(), true);
        CHECK.due("and no PAGE", x.page(5, 0), -1);
        CHECK.due("the one ahead stays", x.page(4, 0), 0);
    }

    private static void pages() {
        SiegeInk x = Check.town("man a 90 90 1 9; man b 9 0 1 9; good g 1 9; good h 1 9; price h = 3; dips b = 2;");
        x.order(1, 1, 1);
        x.days(4);
        x.letter(0, 7);
        int[] first = {1, 1, 1, 6, 6, 0};
        int[] second = {0, -2, 7, 7, 3, 4};
        for (int what = 0; what < 6; what++) {
            CHECK.due("page(0, " + what + ")", x.page(0, what), first[what]);
            CHECK.due("page(1, " + what + ")", x.page(1, what), second[what]);
        }
        CHECK.due("page(0, 6)", x.page(0, 6), -1);
        CHECK.due("page(0, -1)", x.page(0, -1), -1);
        CHECK.due("page(2, 0)", x.page(2, 0), -1);
        CHECK.due("page(-1, 0)", x.page(-1, 0), -1);
        CHECK.due("page(MAX, 0)", x.page(Integer.MAX_VALUE, 0), -1);
    }
}
