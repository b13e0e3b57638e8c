/** Promises 18 to 27: what would be. */
public final class AheadTest {
    private static final Check CHECK = new Check("AheadTest");

    public static void main(String[] args) {
        over();
        lives();
        aid();
        rival();
        led();
        unwritten();
        best();
        bestOfAlikeOnes();
        settles();
        nothingHappens();
        CHECK.end();
    }

    private static void over() {
        SiegeInk x = Check.town("man a 0 0 1 3; man b 0 0 2 4; grace 1;");
        // a eats on 3 days and bears one more; b on 2.
        CHECK.due("over", x.over(), 5);
        x.days(4);
        CHECK.due("one day ahead", x.over(), 1);
        x.days(1);
        CHECK.due("none lives", x.over(), 0);
        x = Check.town("man a 0 0 1 199; grace 0;");
        CHECK.due("over in 200", x.over(), 200);
        x = Check.town("man a 0 0 1 200; grace 0;");
        CHECK.due("not in 200", x.over(), -2);
        CHECK.due("no MEN", new SiegeInk().over(), 0);
    }

    private static void lives() {
        SiegeInk x = Check.town("man a 0 0 1 3; man b 0 0 2 9; man c 0 0 1 4; man d 0 0 1 999; man e 0 0 1 999; grace 0;");
        CHECK.due("a", x.lives(0), 3);
        CHECK.due("b", x.lives(1), 4);
        CHECK.due("c", x.lives(2), 4);
        CHECK.due("d", x.lives(3), 200);
        CHECK.due("last, the first of alike ones", x.last(), 3);
        CHECK.due("no such one", x.lives(5), -1);
        CHECK.due("no such one", x.lives(-1), -1);
        x.days(4);
        CHECK.due("who lives no more", x.lives(0), 0);
        x = Check.town("man a 0 0 1 3; man b 0 0 2 9; man c 0 0 1 4; grace 0;");
        CHECK.due("last of alike ones", x.last(), 1);
        x.days(9);
        CHECK.due("last where none lives", x.last(), 0);
        CHECK.due("last without MEN", new SiegeInk().last(), -2);
        // Hungry for two days already, one more at GRACE 3.
        x = Check.town("man a 0 0 1 0; grace 3;");
        x.days(2);
        CHECK.due("he bears one more", x.lives(0), 1);
        // What has been written fills the 200 PAGES that BUYS need.
        x = Check.town("man a 999 0 1 0; good g 1 999; buys a g = 1; grace 0;");
        CHECK.due("200 PAGES", x.lives(0), 200);
        x.letter(0, 1);
        CHECK.due("199 PAGES", x.lives(0), 199);
    }

    private static void aid() {
        SiegeInk x = Check.town("man a 90 0 1 0; man b 0 0 1 1; man c 3 3 1 9; good g 1 99; price g = 2; buys b g = 1; grace 0;");
        CHECK.due("none needed", x.aid(0, 1, 1), 0);
        CHECK.due("for 2 days", x.aid(0, 1, 2), 2);
        CHECK.due("for 46 days", x.aid(0, 1, 46), 90);
        CHECK.due("for 47 days", x.aid(0, 1, 47), -2);
        CHECK.due("c's ink is strong enough: 1 of soot in 2", x.aid(2, 1, 2), 2);
        CHECK.due("n 0", x.aid(0, 1, 0), -1);
        CHECK.due("n 201", x.aid(0, 1, 201), -1);
        CHECK.due("n 200", x.aid(0, 1, 200), -2);
        CHECK.due("to himself", x.aid(1, 1, 2), -1);
        CHECK.due("no such one", x.aid(0, 3, 2), -1);
        CHECK.due("no such one", x.aid(-1, 1, 2), -1);
        x.days(1);
        CHECK.due("the dead need", x.aid(2, 0, 1), -2);
        CHECK.due("the dead lend not", x.aid(0, 1, 2), -2);
        CHECK.due("but none is needed", x.aid(0, 2, 8), 0);
        x = Check.town("man a 9999 0 1 0; man b 0 0 1 0; good g 9 999; price g = 99; dips b = 21; buys b g = 1; grace 0;");
        CHECK.due("2079 DROPS are beyond 2000", x.aid(0, 1, 1), -2);
        x = Check.town("man a 9999 0 1 0; man b 0 0 1 0; good g 9 999; price g = 80; dips b = 25; buys b g = 1; grace 0;");
        CHECK.due("2000 DROPS are not", x.aid(0, 1, 9), 2000);
        x = Check.town("man a 90 0 1 0; man b 0 0 1 1; good g 1 99; buys b g = 1; grace 0;");
        CHECK.due("1 DROP is enough", x.aid(0, 1, 2), 1);
        x.days(1);
        CHECK.due("but the dead lend none", x.aid(0, 1, 1), -2);
        // More is not always better: with more than 5 DROPS he buys nothing.
        x = Check.town("man a 90 0 1 0; man b 0 0 1 0; good g 1 99; buys b g = if ink < 6 then ink else 0; grace 0;");
        CHECK.due("4 for 4 days", x.aid(0, 1, 4), 4);
        CHECK.due("none for 6", x.aid(0, 1, 6), -2);
    }

    private static void rival() {
        SiegeInk x = Check.town("man a 9 0 1 0; man b 9 0 1 0; man c 9 0 1 0; good g 1 6;"
            + "buys b g = 1; buys c g = 2; buys a g = 1; buys b g = 1; grace 0;");
        CHECK.due("lives", x.lives(0), 1);
        CHECK.due("without b: 2 days; without c: 2 days", x.rival(0, 0), 1);
        CHECK.due("days", x.rival(0, 1), 2);
        x = Check.town("man a 9 0 1 0; man b 9 0 1 0; man c 9 0 1 0; good g 1 6;"
            + "buys b g = 1; buys c g = 3; buys a g = 1; grace 0;");
        CHECK.due("c", x.rival(0, 0), 2);
        CHECK.due("days without c", x.rival(0, 1), 3);
        CHECK.due("b without c", x.rival(1, 0), 2);
        CHECK.due("c without b", x.rival(2, 0), 1);
        CHECK.due("days without b", x.rival(2, 1), 5);
        CHECK.due("no such one", x.rival(3, 0), -1);
        CHECK.due("no such what", x.rival(0, 2), -1);
        CHECK.due("no such what", x.rival(0, -1), -1);
        x = Check.town("man a 9 0 1 0;");
        CHECK.due("no other one", x.rival(0, 0), -2);
        CHECK.due("no other one", x.rival(0, 1), -2);
    }

    private static void led() {
        SiegeInk x = Check.town("man a 90 0 1 9; man b 90 0 1 9; good g 1 99; good h 1 99; dips b = 2;");
        x.order(0, 0, 1);
        x.order(0, 1, 2);
        x.order(0, 0, 3);
        x.letter(0, 5);
        x.order(1, 0, 4);
        x.letter(1, 6);
        CHECK.due("led(0, 0)", x.led(0, 0), 4);
        CHECK.due("led(0, 1)", x.led(0, 1), 2);
        CHECK.due("led(0, -2)", x.led(0, -2), 5);
        CHECK.due("led(0, -1)", x.led(0, -1), 11);
        CHECK.due("led(1, 1)", x.led(1, 1), 0);
        CHECK.due("led(-1, 0)", x.led(-1, 0), 12);
        CHECK.due("led(-1, -2)", x.led(-1, -2), 17);
        CHECK.due("led(-1, -1)", x.led(-1, -1), 31);
        CHECK.due("count(9)", x.count(9), 31);
        CHECK.due("no such man", x.led(2, 0), -1);
        CHECK.due("no such man", x.led(-2, 0), -1);
        CHECK.due("no such good", x.led(0, 2), -1);
        CHECK.due("no such good", x.led(0, -3), -1);
    }

    private static void unwritten() {
        SiegeInk x = Check.town("man a 10 0 1 0; man b 10 0 1 0; good g 1 15; buys a g = 1; buys b g = 1; grace 0;");
        CHECK.due("a lives", x.lives(0), 8);
        CHECK.due("b lives", x.lives(1), 7);
        CHECK.due("a's own letter", x.unwritten(0, 7, 0), 5);
        CHECK.due("a's letter for b", x.unwritten(0, 7, 1), 7 - 10);
        CHECK.due("too long", x.unwritten(0, 11, 1), -1000000);
        CHECK.due("no lines", x.unwritten(0, 0, 1), -1000000);
        CHECK.due("too many lines", x.unwritten(0, 1000, 1), -1000000);
        CHECK.due("no such one", x.unwritten(2, 1, 1), -1000000);
        CHECK.due("for no such one", x.unwritten(0, 1, -1), -1000000);
        x.days(8);
        CHECK.due("he lives no more", x.unwritten(1, 1, 0), -1000000);
        x = Check.town("man a 1000 0 1 0; good g 1 99; price g = 2; buys a g = 1; grace 0;");
        CHECK.due("999 lines", x.unwritten(0, 999, 0), 99);
        CHECK.due("1 line", x.unwritten(0, 1, 0), 0);
    }

    private static void best() {
        SiegeInk x = Check.town("man a 20 0 4 5; man b 10 11 1 0; man c 9999 0 1 0; man d 7 0 2 1; good g 3 9; good h 5 4; good i 1 999;"
            + "price g = 4; price h = 6; price i = 2; dips c = 9; dips d = 0; grace 0;");
        // a: 16 BREAD for 20 DROPS by three h and one i, or by two h and two g: the least of g.
        CHECK.due("bread", x.best(0, 0), 16);
        CHECK.due("drops", x.best(0, 1), 20);
        CHECK.due("days", x.best(0, 2), 5);
        CHECK.due("g", x.bestOf(0, 0), 0);
        CHECK.due("h", x.bestOf(0, 1), 3);
        CHECK.due("i", x.bestOf(0, 2), 1);
        CHECK.due("too faint", x.best(1, 0), 0);
        CHECK.due("too faint: drops", x.best(1, 1), 0);
        CHECK.due("too faint: of g", x.bestOf(1, 0), 0);
        // c: 36, 54, 18 DROPS each; nine g and four h for 540, eighty i for 1440 more.
        CHECK.due("c: bread for 2000", x.best(2, 0), 27 + 20 + 81);
        CHECK.due("c: drops", x.best(2, 1), 324 + 216 + 81 * 18);
        CHECK.due("c: of i", x.bestOf(2, 2), 81);
        CHECK.due("d: all that is, 99 each", x.best(3, 0), 27 + 20 + 99);
        CHECK.due("d: for nothing", x.best(3, 1), 0);
        CHECK.due("d: days", x.best(3, 2), 147 / 2);
        CHECK.due("d: of i", x.bestOf(3, 2), 99);
        CHECK.due("no such man", x.best(4, 0), -1);
        CHECK.due("no such what", x.best(0, 3), -1);
        CHECK.due("no such what", x.best(0, -1), -1);
        CHECK.due("of no such man", x.bestOf(-1, 0), -1);
        CHECK.due("of no such good", x.bestOf(0, 3), -1);
        x.days(9);
        CHECK.due("he lives no more", x.best(0, 0), 0);
        CHECK.due("he lives no more: of g", x.bestOf(0, 0), 0);
        x = Check.town("man a 20 0 4 5;");
        CHECK.due("no GOODS", x.best(0, 0), 0);
        CHECK.due("no GOODS: days", x.best(0, 2), 1);
    }

    private static void bestOfAlikeOnes() {
        // 4 BREAD for 4 DROPS in many ways: the least of g, then of h.
        SiegeInk x = Check.town("man a 4 0 1 0; good g 1 9; good h 2 9; good i 4 9; price h = 2; price i = 4;");
        CHECK.due("bread", x.best(0, 0), 4);
        CHECK.due("g", x.bestOf(0, 0), 0);
        CHECK.due("h", x.bestOf(0, 1), 0);
        CHECK.due("i", x.bestOf(0, 2), 1);
        x = Check.town("man a 5 0 1 0; good g 1 9; good h 2 9; good i 4 9; price h = 2; price i = 4;");
        CHECK.due("g", x.bestOf(0, 0), 1);
        CHECK.due("i", x.bestOf(0, 2), 1);
        // The least DROPS go ahead of the least of g.
        x = Check.town("man a 9 0 1 0; good g 4 1; good h 4 1; good i 9 1; price g = 3; price h = 4; price i = 10;");
        CHECK.due("both", x.best(0, 1), 7);
        x = Check.town("man a 6 0 1 0; good g 4 1; good h 4 1; price g = 3; price h = 4;");
        CHECK.due("g for 3", x.best(0, 1), 3);
        CHECK.due("g", x.bestOf(0, 0), 1);
        CHECK.due("h", x.bestOf(0, 1), 0);
    }

    private static void settles() {
        SiegeInk x = Check.town("man a 90 0 1 0; man b 9 0 1 9; good g 1 10; good h 1 5; good i 1 0;"
            + "wants a g = 30 - cost; wants b g = 10 - cost; wants b h = 9; wants a h = 0 - 9; wants b i = 1000; grace 0;");
        CHECK.due("rounds from 0", x.settles(0, 0, 0), 20);
        CHECK.due("rests at", x.settles(0, 0, 1), 20);
        CHECK.due("no round", x.settles(0, 0, 2), 0);
        CHECK.due("rounds from above", x.settles(0, 99, 0), 79);
        CHECK.due("at once", x.settles(0, 20, 0), 0);
        CHECK.due("too much is wanted: 99", x.settles(1, 4, 1), 99);
        CHECK.due("rounds", x.settles(1, 4, 0), 95);
        CHECK.due("at 99 at once", x.settles(1, 99, 0), 0);
        CHECK.due("store 0", x.settles(2, 0, 1), 99);
        x.days(1);
        CHECK.due("WANTS of those who live", x.settles(0, 9, 1), 0);
        CHECK.due("rounds", x.settles(0, 9, 0), 9);
        CHECK.due("no such good", x.settles(3, 0, 0), -1);
        CHECK.due("no such good", x.settles(-1, 0, 0), -1);
        CHECK.due("no such price", x.settles(0, 100, 0), -1);
        CHECK.due("no such price", x.settles(0, -1, 0), -1);
        CHECK.due("no such what", x.settles(0, 0, 3), -1);
        CHECK.due("no such what", x.settles(0, 0, -1), -1);
        x = Check.town("man a 9 0 1 0; good g 1 5; wants a g = if cost < 30 then 9 else 1;");
        CHECK.due("it goes in a round", x.settles(0, 70, 0), -2);
        CHECK.due("no price", x.settles(0, 70, 1), -2);
        CHECK.due("of two", x.settles(0, 70, 2), 2);
        // Held to 0 .. 999 each, then summed: 999 + 0 of 999 rests.
        x = Check.town("man a 9 0 1 0; good g 1 999; wants a g = 5000; wants a g = 0 - 500; price g = 7;");
        CHECK.due("held, then summed", x.settles(0, 42, 0), 0);
        CHECK.due("the price asked, not the PRICE", x.settles(0, 42, 1), 42);
    }

    private static void nothingHappens() {
        SiegeInk x = Check.town("man a 90 9 1 3; man b 9 0 1 9; good g 1 50; buys a g = 2; buys b g = 1; wants a g = 5;");
        x.letter(0, 3);
        x.over();
        x.last();
        x.lives(1);
        x.aid(0, 1, 50);
        x.rival(0, 0);
        x.unwritten(0, 5, 1);
        x.best(0, 0);
        x.bestOf(0, 0);
        x.settles(0, 5, 0);
        x.led(-1, -1);
        x.watered(9, 0, -1);
        int[] due = {2, 1, 2, 1, 50, 2, 0, 2, 1, 3, 105, 0, 1, 0, 0};
        for (int what = 0; what < due.length; what++) {
            CHECK.due("count(" + what + ")", x.count(what), due[what]);
        }
        CHECK.due("the PAGE stays", x.page(0, 1), -2);
        CHECK.due("its lines", x.page(0, 2), 3);
        CHECK.due("store", x.good(0, 0), 50);
        CHECK.due("larder", x.man(0, 3), 3);
        CHECK.due("debt", x.debt(1, 0), 0);
    }
}
