/** The edges of promises 6 to 17, and of what 'Terms' II says of ink, ORDERS, LETTERS, debts, water and PAGES. */
public final class EdgesOfDeedsTest {
    private static final Check CHECK = new Check("EdgesOfDeedsTest");
    private static final int MIN = Integer.MIN_VALUE;
    private static final int MAX = Integer.MAX_VALUE;

    private static final String TEXT = "man a 60 40 2 19; man b 30 0 1 13; man c 40 0 1 0; good g 3 9; good h 1 2;"
        + "price g = 2; dips b = 3; buys b h = 1; wants a g = 5; faint 40; grace 1;";
    /** Where a and b live and c lives no more; with something of all that can be undone, TOLD and held. */
    private static final Twins TOWN = new Twins(CHECK, TEXT, EdgesOfDeedsTest::past);

    public static void main(String[] args) {
        men();
        goods();
        debtsOfWhom();
        strong();
        dipped();
        ordersOfNoSuchOnes();
        ordersByDrops();
        ordersByStrength();
        ordersByStore();
        ordersForNothing();
        ordersOfTheDead();
        letters();
        lettersByDrops();
        pagesAreFull();
        lent();
        paidBack();
        blotted();
        watered();
        pages();
        CHECK.end();
    }

    private static void past(SiegeInk x) {
        x.order(0, 0, 2);
        x.letter(1, 1);
        x.lend(0, 1, 5);
        x.lend(2, 0, 9);
        x.lend(0, 2, 4);
        x.tell(3, 60);
        x.hold(1);
        x.days(2);
        x.water(0, 3);
        x.repay(1, 0, 2);
    }

    /** n MEN or GOODS, all alike. */
    private static String many(String word, String numbers, int n) {
        StringBuilder s = new StringBuilder();
        for (int i = 0; i < n; i++) {
            s.append(word).append(' ').append(word.charAt(0)).append((char) ('a' + i)).append(numbers).append(';');
        }
        return s.toString();
    }

    // ---- promises 6 to 8

    private static void men() {
        for (int n = 1; n <= 6; n++) {
            SiegeInk x = Check.town(many("man", " 7 1 1 5", n));
            for (int man = 0; man < n; man++) {
                CHECK.due("man " + man + " of " + n, x.man(man, 0), 8);
            }
            CHECK.due("man " + n + " of " + n, x.man(n, 0), -1);
        }
        int[] no = {-1, 3, 6, 7, MIN, MAX};
        for (int man : no) {
            TOWN.unchanged("man(" + man + ", 0)", -1, x -> x.man(man, 0));
        }
        int[] noWhat = {-1, 8, 9, MIN, MAX};
        for (int what : noWhat) {
            TOWN.unchanged("man(0, " + what + ")", -1, x -> x.man(0, what));
        }
        SiegeInk x = Check.town("man a 60 40 2 19; good g 3 9; price g = 2;");
        x.order(0, 0, 2);
        x.days(2);
        int[] due = {96, 60 - 60 * 4 / 100, 58 * 100 / 96, 19 + 6 - 4, 0, 1, 4, 1};
        for (int what = 0; what < 8; what++) {
            CHECK.due("man(0, " + what + ")", x.man(0, what), due[what]);
        }
        for (int what = 0; what < 8; what++) {
            int asked = what;
            TOWN.unchanged("man(0, " + what + ")", one().man(0, what), t -> t.man(0, asked));
        }
    }

    private static SiegeInk one() {
        SiegeInk x = Check.town(TEXT);
        past(x);
        return x;
    }

    private static void goods() {
        for (int n = 1; n <= 5; n++) {
            SiegeInk x = Check.town(many("good", " 3 5", n));
            for (int good = 0; good < n; good++) {
                CHECK.due("good " + good + " of " + n, x.good(good, 0), 5);
            }
            CHECK.due("good " + n + " of " + n, x.good(n, 0), -1);
        }
        int[] no = {-1, -2, 2, 5, 6, MIN, MAX};
        for (int good : no) {
            TOWN.unchanged("good(" + good + ", 0)", -1, x -> x.good(good, 0));
        }
        int[] noWhat = {-1, 4, 5, MIN, MAX};
        for (int what : noWhat) {
            TOWN.unchanged("good(0, " + what + ")", -1, x -> x.good(0, what));
        }
        TOWN.unchanged("STORE", 7, x -> x.good(0, 0));
        TOWN.unchanged("BREAD", 3, x -> x.good(0, 1));
        TOWN.unchanged("PRICE", 2, x -> x.good(0, 2));
        TOWN.unchanged("ORDERED", 2, x -> x.good(0, 3));
        TOWN.unchanged("ORDERED by BUYS", 2, x -> x.good(1, 3));
        TOWN.unchanged("STORE that is empty", 0, x -> x.good(1, 0));
    }

    private static void debtsOfWhom() {
        SiegeInk x = Check.town(many("man", " 99 0 1 9", 6));
        for (int from = 0; from < 6; from++) {
            for (int to = 0; to < 6; to++) {
                CHECK.due("lend(" + from + ", " + to + ")", x.lend(from, to, 1 + from + 2 * to), from != to);
            }
        }
        for (int man = 0; man < 6; man++) {
            for (int to = 0; to < 6; to++) {
                CHECK.due("debt(" + man + ", " + to + ")", x.debt(man, to), man == to ? -1 : 1 + to + 2 * man);
            }
        }
        CHECK.due("debt(6, 0)", x.debt(6, 0), -1);
        CHECK.due("debt(0, 6)", x.debt(0, 6), -1);
        TOWN.unchanged("debt(0, 0)", -1, t -> t.debt(0, 0));
        TOWN.unchanged("debt(3, 0)", -1, t -> t.debt(3, 0));
        TOWN.unchanged("debt(0, 3)", -1, t -> t.debt(0, 3));
        TOWN.unchanged("debt(-1, 0)", -1, t -> t.debt(-1, 0));
        TOWN.unchanged("debt(0, -1)", -1, t -> t.debt(0, -1));
        TOWN.unchanged("debt(MIN, MAX)", -1, t -> t.debt(MIN, MAX));
        TOWN.unchanged("debt(7, 7)", -1, t -> t.debt(7, 7));
        TOWN.unchanged("no debt", 0, t -> t.debt(1, 2));
        TOWN.unchanged("debt of the living", 3, t -> t.debt(1, 0));
        TOWN.unchanged("debt to the dead", 9, t -> t.debt(0, 2));
        TOWN.unchanged("debt of the dead", 4, t -> t.debt(2, 0));
    }

    // ---- ink

    private static int strong(int soot, int water) {
        return Check.town("man a " + soot + " " + water + " 1 1;").man(0, 2);
    }

    private static void strong() {
        CHECK.due("without DROPS", strong(0, 0), 0);
        CHECK.due("water alone", strong(0, 1), 0);
        CHECK.due("ink alone", strong(1, 0), 100);
        CHECK.due("1 in 2", strong(1, 1), 50);
        CHECK.due("1 in 3", strong(1, 2), 33);
        CHECK.due("2 in 3", strong(2, 1), 66);
        CHECK.due("1 in 100", strong(1, 99), 1);
        CHECK.due("1 in 101", strong(1, 100), 0);
        CHECK.due("99 in 100", strong(99, 1), 99);
        CHECK.due("9998 in 9999", strong(9998, 1), 99);
        CHECK.due("9999 of each", strong(9999, 9999), 50);
        CHECK.due("9999 and no water", strong(9999, 0), 100);
    }

    /** How much SOOT goes with so many DROPS. */
    private static int dip(int soot, int water, int drops) {
        SiegeInk x = Check.town("man a " + soot + " " + water + " 1 1;");
        CHECK.due("letter of " + drops, x.letter(0, drops), drops);
        CHECK.due("SOOT goes to the PAGE", x.man(0, 1), soot - x.page(0, 4));
        CHECK.due("and WATER, the rest", x.man(0, 0), soot + water - drops);
        return x.page(0, 4);
    }

    private static void dipped() {
        CHECK.due("1 of 1 in 2", dip(1, 1, 1), 0);
        CHECK.due("2 of 1 in 2", dip(1, 1, 2), 1);
        CHECK.due("1 of 2 in 3", dip(2, 1, 1), 0);
        CHECK.due("2 of 2 in 3", dip(2, 1, 2), 1);
        CHECK.due("3 of 2 in 3", dip(2, 1, 3), 2);
        CHECK.due("of water alone", dip(0, 9, 5), 0);
        CHECK.due("of ink alone", dip(9, 0, 5), 5);
        CHECK.due("999 of much", dip(9999, 9999, 999), 499);
        CHECK.due("998 of 999 in 1000", dip(999, 1, 998), 997);
        // SOOT times DROPS is beyond 32 bits here: 59994 times 59994.
        SiegeInk x = Check.town(many("man", " 9999 9999 1 9", 6));
        for (int man = 1; man < 6; man++) {
            x.lend(man, 0, 19998);
        }
        CHECK.due("all came", x.man(0, 0), 6 * 19998);
        CHECK.due("all SOOT came", x.man(0, 1), 6 * 9999);
        CHECK.due("STRONG", x.man(0, 2), 50);
        CHECK.due("lend nearly all on", x.lend(0, 1, 6 * 19998 - 1), true);
        CHECK.due("half of it, rounded down", x.man(1, 1), 59993);
        CHECK.due("one is left", x.man(0, 0), 1);
        CHECK.due("and is SOOT", x.man(0, 1), 1);
    }

    // ---- promise 9

    private static void ordersOfNoSuchOnes() {
        int[] no = {-1, 3, 6, MIN, MAX};
        for (int man : no) {
            TOWN.unchanged("order(" + man + ", 0, 1)", -1, x -> x.order(man, 0, 1));
        }
        int[] noGood = {-1, -2, 2, 5, MIN, MAX};
        for (int good : noGood) {
            TOWN.unchanged("order(0, " + good + ", 1)", -1, x -> x.order(0, good, 1));
        }
        int[] below = {0, -1, -2, MIN};
        for (int n : below) {
            TOWN.unchanged("order(0, 0, " + n + ")", -1, x -> x.order(0, 0, n));
        }
        // What is no such one is told ahead of what can't be.
        TOWN.unchanged("order(2, 2, 1), by the dead", -1, x -> x.order(2, 2, 1));
        TOWN.unchanged("order(2, 0, 0), by the dead", -1, x -> x.order(2, 0, 0));
        TOWN.unchanged("order(0, 1, 1), of an empty STORE", -2, x -> x.order(0, 1, 1));
        TOWN.undone("order(0, 0, 1)", x -> CHECK.due("order(0, 0, 1)", x.order(0, 0, 1), 2));
    }

    private static void ordersByDrops() {
        // 2 lines and 3 DROPS for a line: 6 for one.
        for (int drops = 5; drops <= 13; drops++) {
            String text = "man a " + drops + " 0 1 0; man b 1 0 1 0; good g 1 9; price g = 2; dips a = 3;";
            Twins town = new Twins(CHECK, text, x -> { });
            int can = drops / 6;
            if (can > 0) {
                CHECK.due(can + " with " + drops, Check.town(text).order(0, 0, can), can * 6);
            }
            town.unchanged(can + 1 + " with " + drops, -2, x -> x.order(0, 0, can + 1));
        }
        SiegeInk x = Check.town("man a 9999 9999 1 0; good g 1 999; price g = 20; dips a = 1;");
        CHECK.due("999 at once: 19980 of 19998", x.order(0, 0, 999), 19980);
        CHECK.due("STORE is empty", x.good(0, 0), 0);
        CHECK.due("lines", x.man(0, 6), 19980);
        CHECK.due("DROPS left", x.man(0, 0), 18);
        Twins dear = new Twins(CHECK, "man a 9999 9999 1 0; man b 1 0 1 0; good g 9 999; price g = 99; dips a = 99;", t -> { });
        dear.unchanged("9801 for one, 999 at once", -2, t -> t.order(0, 0, 999));
        dear.unchanged("three", -2, t -> t.order(0, 0, 3));
        CHECK.due("two", Check.town("man a 9999 9999 1 0; good g 9 999; price g = 99; dips a = 99;").order(0, 0, 2), 19602);
    }

    private static void ordersByStrength() {
        for (int faint = 0; faint <= 100; faint += 25) {
            for (int soot = 0; soot <= 100; soot++) {
                SiegeInk x = Check.town("man a " + soot + " " + (100 - soot) + " 1 0; good g 1 9; faint " + faint + ";");
                CHECK.due("STRONG " + soot + ", FAINT " + faint, x.order(0, 0, 1), soot >= faint ? 1 : -2);
            }
        }
        // STRONG is rounded down: 1999 in 4000 is 49.
        new Twins(CHECK, "man a 1999 2001 1 0; man b 1 0 1 0; good g 1 9;", t -> { }).unchanged("49", -2, t -> t.order(0, 0, 1));
        CHECK.due("50", Check.town("man a 2000 2000 1 0; good g 1 9;").order(0, 0, 1), 1);
        new Twins(CHECK, "man a 9999 1 1 0; man b 1 0 1 0; good g 1 9; faint 100;", t -> { }).unchanged("99", -2, t -> t.order(0, 0, 1));
        CHECK.due("100", Check.town("man a 9999 0 1 0; good g 1 9; faint 100;").order(0, 0, 1), 1);
        // It is the ink ahead of the ORDER that counts, not what is left.
        SiegeInk x = Check.town("man a 1 1 1 0; good g 1 9;");
        CHECK.due("all of 1 in 2", x.order(0, 0, 2), 2);
        CHECK.due("none is left: too faint", x.order(0, 0, 1), -2);
    }

    private static void ordersByStore() {
        int[] stores = {0, 1, 5, 98, 99, 100, 998, 999};
        for (int store : stores) {
            String text = "man a 9999 0 1 0; man b 1 0 1 0; good g 2 " + store + "; good h 1 999;";
            Twins town = new Twins(CHECK, text, t -> { });
            town.unchanged("one more than STORE " + store, -2, t -> t.order(0, 0, store + 1));
            town.unchanged("MAX of STORE " + store, -2, t -> t.order(0, 0, MAX));
            if (store > 0) {
                SiegeInk x = Check.town(text);
                CHECK.due("all of STORE " + store, x.order(0, 0, store), store);
                CHECK.due("BREAD each", x.man(0, 3), 2 * store);
                CHECK.due("STORE of the other", x.good(1, 0), 999);
                CHECK.due("no more", x.order(0, 0, 1), -2);
            }
        }
        // n times the PRICE is a small number in 32 bits, but STORE has not so many.
        Twins town = new Twins(CHECK, "man a 9999 0 1 0; man b 1 0 1 0; good g 2 999; price g = 4;", t -> { });
        town.unchanged("n that wraps to one", -2, t -> t.order(0, 0, (1 << 30) + 1));
        town.unchanged("n that wraps to none", -2, t -> t.order(0, 0, 1 << 30));
    }

    private static void ordersForNothing() {
        // 0 lines, or 0 DROPS a line: a PAGE all the same, if the ink is strong enough.
        String[] laws = {"price g = 0;", "dips a = 0;"};
        for (String law : laws) {
            SiegeInk x = Check.town("man a 0 0 1 0; good g 1 9; faint 0;" + law);
            CHECK.due("for nothing: " + law, x.order(0, 0, 9), 0);
            CHECK.due("a PAGE", x.count(8), 1);
            CHECK.due("how many", x.page(0, 2), 9);
            CHECK.due("DROPS", x.page(0, 3), 0);
            CHECK.due("SOOT", x.page(0, 4), 0);
            CHECK.due("lines", x.man(0, 6), law.startsWith("price") ? 0 : 9);
            CHECK.due("LARDER", x.man(0, 3), 9);
            new Twins(CHECK, "man a 0 0 1 0; man b 1 0 1 0; good g 1 9; faint 1;" + law, t -> { })
                .unchanged("no ink is fainter than 1: " + law, -2, t -> t.order(0, 0, 1));
        }
        new Twins(CHECK, "man a 0 0 1 0; man b 1 0 1 0; good g 1 9; faint 0;", t -> { })
            .unchanged("not faint, but without DROPS", -2, t -> t.order(0, 0, 1));
    }

    private static void ordersOfTheDead() {
        TOWN.unchanged("order by the dead", -2, x -> x.order(2, 0, 1));
        SiegeInk x = Check.town("man a 9 0 1 0; good g 1 9; grace 1;");
        x.days(1);
        CHECK.due("on the last day of GRACE", x.order(0, 0, 1), 1);
        x.undo();
        x.days(1);
        CHECK.due("a day later", x.order(0, 0, 1), -2);
    }

    // ---- promise 10

    private static void letters() {
        int[] no = {-1, 3, 6, MIN, MAX};
        for (int man : no) {
            TOWN.unchanged("letter(" + man + ", 1)", -1, x -> x.letter(man, 1));
        }
        int[] lines = {0, -1, 1000, 1001, MIN, MAX};
        for (int n : lines) {
            TOWN.unchanged("letter(0, " + n + ")", -1, x -> x.letter(0, n));
            TOWN.unchanged("letter(2, " + n + ") by the dead", -1, x -> x.letter(2, n));
        }
        TOWN.unchanged("by the dead", -2, x -> x.letter(2, 1));
        SiegeInk x = Check.town("man a 9999 0 1 9; dips a = 10;");
        CHECK.due("letter(0, 1)", x.letter(0, 1), 10);
        CHECK.due("999 lines are 9990 DROPS, he has 9989", x.letter(0, 999), -2);
        CHECK.due("998 lines", x.letter(0, 998), 9980);
        x = Check.town("man a 9990 0 1 9; dips a = 10;");
        CHECK.due("999 lines", x.letter(0, 999), 9990);
        CHECK.due("lines", x.man(0, 6), 999);
        // However faint, and with no ink at all where a line takes none.
        CHECK.due("of water alone", Check.town("man a 0 5 1 9; faint 100;").letter(0, 5), 5);
        x = Check.town("man a 0 0 1 9; dips a = 0; faint 100;");
        CHECK.due("of nothing", x.letter(0, 999), 0);
        CHECK.due("a PAGE", x.page(0, 1), -2);
        x = Check.town("man a 9 0 1 0; grace 0;");
        CHECK.due("while he lives", x.letter(0, 1), 1);
        x.days(1);
        CHECK.due("no more", x.letter(0, 1), -2);
    }

    private static void lettersByDrops() {
        for (int drops = 0; drops <= 12; drops++) {
            int most = drops / 3;
            String text = "man a " + drops / 2 + " " + (drops - drops / 2) + " 1 9; man b 1 0 1 9; good g 1 1; dips a = 3;";
            new Twins(CHECK, text, x -> { }).unchanged("too few: " + drops, -2, x -> x.letter(0, most + 1));
            if (most > 0) {
                CHECK.due("enough: " + drops, Check.town(text).letter(0, most), 3 * most);
            }
        }
    }

    // ---- PAGES

    /** Twelve PAGES a day for nothing, and 8 on the last: 200 in all. */
    private static final String MANY_PAGES = "man a 99 0 1 999; man b 99 0 1 999; man c 99 0 1 999; good g 1 999; good h 1 9; price g = 0;"
        + "buys a g = 1;".repeat(12);

    private static void pagesAreFull() {
        SiegeInk x = Check.town(MANY_PAGES);
        x.days(16);
        CHECK.due("PAGES of 16 days", x.count(8), 192);
        for (int i = 0; i < 7; i++) {
            x.letter(1, 1);
        }
        CHECK.due("199 PAGES", x.count(8), 199);
        CHECK.due("the 200th is a LETTER", x.letter(0, 1), 1);
        CHECK.due("200 PAGES", x.count(8), 200);
        CHECK.due("the 201st", x.letter(0, 1), -2);
        x.undo();
        CHECK.due("the 200th is an ORDER", x.order(0, 1, 2), 2);
        CHECK.due("the 201st", x.order(0, 1, 2), -2);
        CHECK.due("the last PAGE", x.page(199, 3), 2);
        CHECK.due("none behind", x.page(200, 3), -1);
        x.undo();
        x.days(1);
        CHECK.due("the 200th is of BUYS", x.count(8), 200);
        CHECK.due("just one more ORDERED", x.good(0, 3), 193);
        Twins full = new Twins(CHECK, MANY_PAGES, t -> t.days(17));
        full.unchanged("200 PAGES of 17 days", 200, t -> t.count(8));
        full.unchanged("order", -2, t -> t.order(1, 1, 1));
        full.unchanged("letter", -2, t -> t.letter(1, 1));
        full.unchanged("unwritten", -1000000, t -> t.unwritten(1, 1, 1));
        full.unchanged("no such ones", -1, t -> t.letter(3, 1));
        full.unchanged("no such ones", -1, t -> t.order(0, 2, 1));
        full.undone("a day without a PAGE", t -> t.days(1));
        CHECK.due("ink can be lent", town(MANY_PAGES, 17).lend(0, 1, 5), true);
        CHECK.due("and watered", town(MANY_PAGES, 17).water(0, 1), 99);
    }

    private static SiegeInk town(String text, int days) {
        SiegeInk x = Check.town(text);
        x.days(days);
        return x;
    }

    // ---- promises 11 to 13

    private static void lent() {
        int[] no = {-1, 3, 6, MIN, MAX};
        for (int man : no) {
            TOWN.refuses("lend(" + man + ", 0, 1)", x -> x.lend(man, 0, 1));
            TOWN.refuses("lend(0, " + man + ", 1)", x -> x.lend(0, man, 1));
        }
        TOWN.refuses("lend(0, 0, 1)", x -> x.lend(0, 0, 1));
        TOWN.refuses("lend(4, 4, 1)", x -> x.lend(4, 4, 1));
        int[] below = {0, -1, MIN};
        for (int n : below) {
            TOWN.refuses("lend(0, 1, " + n + ")", x -> x.lend(0, 1, n));
        }
        TOWN.refuses("lend(0, 1, MAX)", x -> x.lend(0, 1, MAX));
        TOWN.refuses("lend by the dead", x -> x.lend(2, 0, 1));
        TOWN.refuses("lend to the dead", x -> x.lend(0, 2, 1));
        int has = one().man(0, 0);
        TOWN.refuses("one more than he has", x -> x.lend(0, 1, has + 1));
        TOWN.undone("all that he has", x -> CHECK.due("lend all", x.lend(0, 1, has), true));
        SiegeInk x = Check.town("man a 3 4 1 9; man b 0 0 1 9;");
        CHECK.due("none of none", x.lend(1, 0, 1), false);
        CHECK.due("one", x.lend(0, 1, 1), true);
        CHECK.due("it is WATER: 3 * 1 / 7", x.man(1, 1), 0);
        CHECK.due("of a's SOOT none went", x.man(0, 1), 3);
        CHECK.due("the other six", x.lend(0, 1, 6), true);
        CHECK.due("all SOOT went", x.man(1, 1), 3);
        CHECK.due("DROPS", x.man(1, 0), 7);
        CHECK.due("a has none", x.man(0, 0), 0);
        CHECK.due("so many more", x.debt(1, 0), 7);
        CHECK.due("b lends it on to a", x.lend(1, 0, 7), true);
        CHECK.due("which is another DEBT", x.debt(0, 1), 7);
        CHECK.due("and pays none", x.debt(1, 0), 7);
    }

    private static void paidBack() {
        int[] no = {-1, 3, 6, MIN, MAX};
        for (int man : no) {
            TOWN.unchanged("repay(" + man + ", 0, 1)", -1, x -> x.repay(man, 0, 1));
            TOWN.unchanged("repay(1, " + man + ", 1)", -1, x -> x.repay(1, man, 1));
        }
        TOWN.unchanged("repay(1, 1, 1)", -1, x -> x.repay(1, 1, 1));
        int[] below = {0, -1, MIN};
        for (int n : below) {
            TOWN.unchanged("repay(1, 0, " + n + ")", -1, x -> x.repay(1, 0, n));
        }
        TOWN.unchanged("he owes none", -1, x -> x.repay(1, 2, 1));
        TOWN.unchanged("it is owed to him", -1, x -> x.repay(0, 1, 1));
        TOWN.undone("repay(1, 0, MAX)", x -> CHECK.due("as he owes", x.repay(1, 0, MAX), 3));
        SiegeInk x = Check.town("man a 9 9 1 9; man b 0 0 1 9; man c 0 0 1 9;");
        x.lend(0, 1, 10);
        CHECK.due("one of ten", x.repay(1, 0, 1), 1);
        CHECK.due("it is WATER: 5 * 1 / 10", x.man(1, 1), 5);
        CHECK.due("nine are owed", x.debt(1, 0), 9);
        CHECK.due("eight", x.repay(1, 0, 8), 8);
        CHECK.due("one is owed", x.debt(1, 0), 1);
        CHECK.due("two, but he owes one", x.repay(1, 0, 2), 1);
        CHECK.due("none is owed", x.debt(1, 0), 0);
        CHECK.due("no more", x.repay(1, 0, 1), -1);
        x.lend(0, 1, 10);
        x.letter(1, 6);
        CHECK.due("ten, but he has four", x.repay(1, 0, 10), 4);
        CHECK.due("six are owed", x.debt(1, 0), 6);
        CHECK.due("he has none", x.repay(1, 0, 10), -1);
        CHECK.due("six stay", x.debt(1, 0), 6);
        x.lend(0, 2, 2);
        x.lend(2, 1, 2);
        CHECK.due("with what another lent", x.repay(1, 0, 6), 2);
        CHECK.due("four are owed", x.debt(1, 0), 4);
        CHECK.due("and two to the other", x.debt(1, 2), 2);
    }

    private static void blotted() {
        int[] no = {-1, 3, 6, MIN, MAX};
        for (int man : no) {
            TOWN.unchanged("blot(" + man + ", 0)", -1, x -> x.blot(man, 0));
            TOWN.unchanged("blot(1, " + man + ")", -1, x -> x.blot(1, man));
        }
        TOWN.unchanged("blot(0, 0)", -1, x -> x.blot(0, 0));
        TOWN.unchanged("none is", -1, x -> x.blot(1, 2));
        TOWN.unchanged("none is the other way", -1, x -> x.blot(0, 1));
        TOWN.undone("blot(1, 0)", x -> CHECK.due("what it was", x.blot(1, 0), 3));
        SiegeInk x = Check.town("man a 9 9 1 9; man b 0 0 1 9; man c 5 0 1 9;");
        x.lend(0, 1, 1);
        x.lend(2, 1, 2);
        x.lend(1, 0, 3);
        CHECK.due("a DEBT of one", x.blot(1, 0), 1);
        CHECK.due("is no more", x.debt(1, 0), 0);
        CHECK.due("nor again", x.blot(1, 0), -1);
        CHECK.due("that to c stays", x.debt(1, 2), 2);
        CHECK.due("that of a stays", x.debt(0, 1), 3);
        CHECK.due("DROPS stay", x.man(1, 0), 0);
        CHECK.due("it can't be paid back", x.repay(1, 0, 1), -1);
    }

    // ---- promise 14

    private static void watered() {
        int[] no = {-1, 3, 6, MIN, MAX};
        for (int man : no) {
            TOWN.unchanged("water(" + man + ", 1)", -1, x -> x.water(man, 1));
        }
        int[] below = {0, -1, MIN};
        for (int n : below) {
            TOWN.unchanged("water(0, " + n + ")", -1, x -> x.water(0, n));
        }
        int has = one().man(0, 0) - one().man(0, 1);
        TOWN.unchanged("more than 9999 in all", -1, x -> x.water(0, 10000 - has));
        TOWN.unchanged("MAX", -1, x -> x.water(0, MAX));
        TOWN.unchanged("MAX less what is there", -1, x -> x.water(0, MAX - has + 1));
        TOWN.undone("9999 in all", x -> CHECK.due("9999 in all", x.water(0, 9999 - has) >= 0, true));
        for (int water = 9997; water <= 9999; water++) {
            String text = "man a 9999 " + water + " 1 9; man b 1 0 1 9; good g 1 1;";
            int room = 9999 - water;
            new Twins(CHECK, text, x -> { }).unchanged("one too many behind " + water, -1, x -> x.water(0, room + 1));
            if (room > 0) {
                SiegeInk x = Check.town(text);
                CHECK.due("9999 in all behind " + water, x.water(0, room), 50);
                CHECK.due("no more", x.water(0, 1), -1);
            }
        }
        SiegeInk x = Check.town("man a 1 0 1 9; man b 0 0 1 9; man c 0 9999 1 9; good g 1 1;");
        CHECK.due("1 in 2", x.water(0, 1), 50);
        CHECK.due("1 in 100", x.water(0, 98), 1);
        CHECK.due("1 in 101", x.water(0, 1), 0);
        CHECK.due("SOOT stays", x.man(0, 1), 1);
        CHECK.due("water alone", x.water(1, 9999), 0);
        CHECK.due("its DROPS", x.man(1, 0), 9999);
        // What is written or lent makes room again; what is lent goes beyond.
        CHECK.due("a LETTER", x.letter(1, 5), 5);
        CHECK.due("room for five", x.water(1, 6), -1);
        CHECK.due("room for five", x.water(1, 5), 0);
        CHECK.due("lend to c", x.lend(1, 2, 9999), true);
        CHECK.due("c has 19998 of water", x.man(2, 0), 19998);
        CHECK.due("c pours no more", x.water(2, 1), -1);
        CHECK.due("lend back", x.lend(2, 1, 9999), true);
        CHECK.due("nor now", x.water(2, 1), -1);
        CHECK.due("lend one more", x.lend(2, 0, 1), true);
        CHECK.due("room for one", x.water(2, 1), 0);
    }

    // ---- promise 17

    private static void pages() {
        int pages = one().count(8);
        int[] no = {-1, pages, pages + 1, 199, 200, MIN, MAX};
        for (int i : no) {
            TOWN.unchanged("page(" + i + ", 0)", -1, x -> x.page(i, 0));
        }
        int[] noWhat = {-1, 6, 7, MIN, MAX};
        for (int what : noWhat) {
            TOWN.unchanged("page(0, " + what + ")", -1, x -> x.page(0, what));
        }
        // b has 27 of SOOT in 27 DROPS, and is lent 58 * 5 / 96 in 5; so 30 * 3 / 32 go, then 28 * 3 / 29.
        int[][] due = {{0, 0, 2, 4, 2, 0}, {1, -2, 1, 3, 3, 0}, {1, 1, 1, 3, 2, 0}, {1, 1, 1, 3, 2, 1}};
        SiegeInk t = one();
        CHECK.due("PAGES", pages, due.length);
        for (int i = 0; i < due.length; i++) {
            for (int what = 0; what < 6; what++) {
                CHECK.due("page(" + i + ", " + what + ")", t.page(i, what), due[i][what]);
            }
        }
        SiegeInk x = Check.town("man a 9 0 1 9; good g 1 9;");
        CHECK.due("no PAGE", x.page(0, 0), -1);
        x.letter(0, 1);
        CHECK.due("one", x.page(0, 1), -2);
        CHECK.due("no second", x.page(1, 1), -1);
        x.undo();
        CHECK.due("undone", x.page(0, 1), -1);
        x.order(0, 0, 1);
        CHECK.due("another one", x.page(0, 1), 0);
    }
}
