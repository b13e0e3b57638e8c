/** The edges of promises 28 to 33: what is TOLD, who WATERED, SLOTS, and what is counted. */
public final class EdgesOfInkTest {
    private static final Check CHECK = new Check("EdgesOfInkTest");
    private static final int MIN = Integer.MIN_VALUE;
    private static final int MAX = Integer.MAX_VALUE;
    private static final String TEXT = "man a 60 40 2 19; man b 30 0 1 13; man c 40 0 1 0; good g 3 9; good h 1 2; price g = 2; dips b = 3;"
        + "buys b h = 1; wants a g = 5; faint 40; grace 1;";

    /** a and b live, c lives no more; two are TOLD, SLOT 1 holds the second day. */
    private static final Twins TOWN = new Twins(CHECK, TEXT, x -> {
        x.tell(3, 68);
        x.tell(2, 100);
        x.order(0, 0, 2);
        x.lend(0, 1, 5);
        x.days(1);
        x.hold(1);
        x.days(1);
    });

    public static void main(String[] args) {
        setsOfMen();
        strengths();
        twentyTests();
        forgotten();
        wateredByWhat();
        wateredByMost();
        wateredOneByOne();
        wateredByKnown();
        wateredByNow();
        wateredWithoutInk();
        slots();
        heldIsHeld();
        notHeld();
        heldAnew();
        counts();
        CHECK.end();
    }

    /** n MEN, each with 10 of ink. */
    private static String men(int n) {
        StringBuilder s = new StringBuilder();
        for (int i = 0; i < n; i++) {
            s.append("man m").append((char) ('a' + i)).append(" 10 0 1 9;");
        }
        return s.toString();
    }

    // ---- promise 28

    private static void setsOfMen() {
        for (int n = 1; n <= 6; n++) {
            Twins town = new Twins(CHECK, men(n), x -> { });
            int all = (1 << n) - 1;
            CHECK.due("the first of " + n, Check.town(men(n)).tell(1, 50), 0);
            CHECK.due("the last of " + n, Check.town(men(n)).tell(1 << n - 1, 50), 0);
            CHECK.due("all of " + n, Check.town(men(n)).tell(all, 50), 0);
            town.unchanged("one who is not among " + n, -1, x -> x.tell(all + 1, 50));
            town.unchanged("all and one who is not among " + n, -1, x -> x.tell(2 * all + 1, 50));
            town.unchanged("none of " + n, -1, x -> x.tell(0, 50));
        }
        TOWN.unchanged("tell(-1, 50)", -1, x -> x.tell(-1, 50));
        TOWN.unchanged("tell(MIN, 50)", -1, x -> x.tell(MIN, 50));
        TOWN.unchanged("tell(MIN + 1, 50)", -1, x -> x.tell(MIN + 1, 50));
        TOWN.unchanged("tell(MAX, 50)", -1, x -> x.tell(MAX, 50));
        TOWN.unchanged("tell(0, 50)", -1, x -> x.tell(0, 50));
        TOWN.unchanged("tell(8, 50)", -1, x -> x.tell(8, 50));
        CHECK.due("without MEN", new SiegeInk().tell(1, 50), -1);
        TOWN.undone("tell of the dead", x -> CHECK.due("tell(4, 50)", x.tell(4, 50), 2));
    }

    private static void strengths() {
        int[] no = {-1, 101, MIN, MAX};
        for (int strong : no) {
            TOWN.unchanged("tell(1, " + strong + ")", -1, x -> x.tell(1, strong));
        }
        TOWN.undone("tell(1, 0)", x -> CHECK.due("tell(1, 0)", x.tell(1, 0), 2));
        TOWN.undone("tell(1, 100)", x -> CHECK.due("tell(1, 100)", x.tell(1, 100), 2));
    }

    private static void tellTwenty(SiegeInk x) {
        for (int i = 0; i < 20; i++) {
            x.tell(1, 100);
        }
    }

    private static void twentyTests() {
        SiegeInk x = Check.town(men(2));
        for (int i = 0; i < 20; i++) {
            CHECK.due("its number", x.tell(1 + i % 3, i), i);
            CHECK.due("TOLD ones", x.count(13), i + 1);
        }
        CHECK.due("20 are there", x.tell(1, 50), -1);
        CHECK.due("TOLD ones", x.count(13), 20);
        Twins full = new Twins(CHECK, men(2) + "good g 1 1;", EdgesOfInkTest::tellTwenty);
        full.unchanged("the 21st", -1, t -> t.tell(1, 100));
        full.unchanged("all 20 are KNOWN: none, or the other by 1 .. 20", 21, t -> t.watered(20, 20, -1));
        // The last one counts as the others do.
        x = Check.town(men(2));
        for (int i = 0; i < 19; i++) {
            x.tell(2, 100);
        }
        CHECK.due("the twentieth", x.tell(1, 90), 19);
        CHECK.due("by 19", x.watered(20, 19, -1), 21);
        CHECK.due("by 20: a by 1", x.watered(20, 20, -1), 1);
        CHECK.due("a by 1", x.watered(20, 20, 0), 1);
        CHECK.due("undo", x.undo(), true);
        CHECK.due("its number again", x.tell(1, 50), 19);
    }

    // ---- promise 29

    private static void forgotten() {
        SiegeInk x = Check.town(men(1));
        CHECK.due("forget of none", x.forget(), 0);
        x.tell(1, 50);
        CHECK.due("forget of one", x.forget(), 1);
        CHECK.due("none is TOLD", x.count(13), 0);
        CHECK.due("forget again", x.forget(), 0);
        CHECK.due("numbered from 0 on", x.tell(1, 100), 0);
        CHECK.due("what was forgotten is not KNOWN", x.watered(5, 1, 0), 0);
        CHECK.due("by 2", x.watered(5, 2, -1), -1);
        x.forget();
        tellTwenty(x);
        CHECK.due("forget of 20", x.forget(), 20);
        CHECK.due("20 more", x.tell(1, 100), 0);
        TOWN.undone("forget", t -> CHECK.due("forget of two", t.forget(), 2));
    }

    // ---- promise 30

    private static void wateredByWhat() {
        int[] mosts = {0, -1, 501, MIN, MAX};
        for (int most : mosts) {
            TOWN.unchanged("watered(" + most + ", 0, -1)", -1, x -> x.watered(most, 0, -1));
            TOWN.unchanged("watered(" + most + ", 0, 0)", -1, x -> x.watered(most, 0, 0));
        }
        int[] ks = {-1, 3, 20, 21, MIN, MAX};
        for (int k : ks) {
            TOWN.unchanged("watered(1, " + k + ", -1)", -1, x -> x.watered(1, k, -1));
            TOWN.unchanged("watered(1, " + k + ", 0)", -1, x -> x.watered(1, k, 0));
        }
        int[] is = {-2, 4, 5, MIN, MAX};
        for (int i : is) {
            TOWN.unchanged("watered(1, 0, " + i + ")", -1, x -> x.watered(1, 0, i));
        }
        TOWN.unchanged("how many ways", 4, x -> x.watered(1, 0, -1));
        TOWN.unchanged("none", 0, x -> x.watered(1, 0, 0));
        TOWN.unchanged("a by 1", 1, x -> x.watered(1, 0, 1));
        TOWN.unchanged("b by 1", 1001, x -> x.watered(1, 0, 2));
        TOWN.unchanged("c by 1", 2001, x -> x.watered(1, 0, 3));
    }

    private static void wateredByMost() {
        int[] mosts = {1, 2, 499, 500};
        for (int most : mosts) {
            CHECK.due("without MEN there is no way, by " + most, new SiegeInk().watered(most, 0, -1), 0);
            CHECK.due("not one", new SiegeInk().watered(most, 0, 0), -1);
            for (int n = 1; n <= 6; n++) {
                SiegeInk x = Check.town(men(n));
                int ways = 1 + n * most;
                CHECK.due("ways of " + n + " by " + most, x.watered(most, 0, -1), ways);
                CHECK.due("the first", x.watered(most, 0, 0), 0);
                CHECK.due("the last", x.watered(most, 0, ways - 1), 1000 * (n - 1) + most);
                CHECK.due("none behind", x.watered(most, 0, ways), -1);
            }
        }
        // 10 in 500 is 2, in 501 it is 1.
        SiegeInk x = Check.town("man a 10 0 1 9;");
        x.tell(1, 1);
        CHECK.due("by 490", x.watered(490, 1, -1), 0);
        CHECK.due("by 491", x.watered(491, 1, -1), 1);
        CHECK.due("it is 491", x.watered(491, 1, 0), 491);
        CHECK.due("by 500", x.watered(500, 1, -1), 10);
        CHECK.due("the last", x.watered(500, 1, 9), 500);
    }

    private static void wateredOneByOne() {
        SiegeInk x = Check.town(men(3));
        int i = 0;
        CHECK.due("none, told once", x.watered(4, 0, i), 0);
        for (int man = 0; man < 3; man++) {
            for (int more = 1; more <= 4; more++) {
                i++;
                CHECK.due("way " + i, x.watered(4, 0, i), 1000 * man + more);
            }
        }
        CHECK.due("not so many", x.watered(4, 0, i + 1), -1);
        CHECK.due("how many", x.watered(4, 0, -1), 13);
        // That none WATERED is told as MAN 0, though the tests are of others.
        x.tell(6, 100);
        CHECK.due("none, or a", x.watered(4, 1, -1), 5);
        CHECK.due("none", x.watered(4, 1, 0), 0);
        CHECK.due("a by 1", x.watered(4, 1, 1), 1);
        CHECK.due("a by 4", x.watered(4, 1, 4), 4);
        x.forget();
        x.tell(6, 99);
        CHECK.due("b or c, but by 1 it is 95", x.watered(4, 1, -1), 0);
        x.forget();
        x.tell(6, 95);
        CHECK.due("b or c", x.watered(4, 1, -1), 2);
        CHECK.due("b", x.watered(4, 1, 0), 1001);
        CHECK.due("c", x.watered(4, 1, 1), 2001);
        x.tell(5, 95);
        CHECK.due("c", x.watered(4, 2, 0), 2001);
        CHECK.due("c alone", x.watered(4, 2, 1), -1);
    }

    private static void wateredByKnown() {
        SiegeInk x = Check.town(men(2));
        x.tell(1, 90);
        x.tell(2, 100);
        x.tell(3, 95);
        x.tell(3, 94);
        int[] ways = {11, 1, 1, 1, 0};
        for (int k = 0; k < 5; k++) {
            CHECK.due("the first " + k, x.watered(5, k, -1), ways[k]);
        }
        CHECK.due("the first 5 of 4", x.watered(5, 5, -1), -1);
        CHECK.due("a by 1", x.watered(5, 3, 0), 1);
        CHECK.due("no way", x.watered(5, 4, 0), -1);
    }

    private static void wateredByNow() {
        SiegeInk x = Check.town("man a 10 0 1 0; man b 10 0 1 9; grace 0;");
        x.tell(3, 80);
        CHECK.due("20 in 25", x.watered(5, 1, 0), 5);
        CHECK.due("or b", x.watered(5, 1, 1), 1005);
        x.water(0, 3);
        CHECK.due("2 more", x.watered(5, 1, 0), 2);
        x.letter(1, 5);
        CHECK.due("15 in 18 and 0 more is 83", x.watered(5, 1, -1), 0);
        x.undo();
        CHECK.due("2 more again", x.watered(5, 1, 0), 2);
        x.days(1);
        CHECK.due("he lives no more", x.man(0, 5), 0);
        CHECK.due("his ink is poured all the same", x.watered(5, 1, 0), 2);
    }

    private static void wateredWithoutInk() {
        SiegeInk x = Check.town("man a 0 0 1 9; man b 5 0 1 9;");
        x.tell(1, 0);
        CHECK.due("no ink is 0 STRONG, however watered", x.watered(3, 1, -1), 7);
        x.tell(1, 1);
        CHECK.due("but never 1", x.watered(3, 2, -1), 0);
        x.forget();
        x.tell(3, 100);
        CHECK.due("without water", x.watered(3, 1, -1), 1);
        x.forget();
        x.tell(3, 83);
        CHECK.due("5 in 6", x.watered(3, 1, -1), 2);
        CHECK.due("a by 1", x.watered(3, 1, 0), 1);
        CHECK.due("b by 1", x.watered(3, 1, 1), 1001);
        // All the ink that can be: 59994 of SOOT in 119988 and 500.
        StringBuilder s = new StringBuilder();
        for (int i = 0; i < 6; i++) {
            s.append("man m").append((char) ('a' + i)).append(" 9999 9999 1 9;");
        }
        x = Check.town(s.toString());
        x.tell(63, 50);
        CHECK.due("only if none WATERED", x.watered(500, 1, -1), 1);
        x.forget();
        x.tell(63, 49);
        CHECK.due("by whomsoever", x.watered(500, 1, -1), 3000);
        CHECK.due("the last", x.watered(500, 1, 2999), 5500);
    }

    // ---- promises 31 and 32

    private static void slots() {
        int[] no = {-1, 3, 4, MIN, MAX};
        for (int slot : no) {
            TOWN.refuses("hold(" + slot + ")", x -> x.hold(slot));
            TOWN.refuses("restore(" + slot + ")", x -> x.restore(slot));
        }
        TOWN.refuses("restore(0): nothing is held", x -> x.restore(0));
        TOWN.refuses("restore(2): nothing is held", x -> x.restore(2));
        SiegeInk x = Check.town(TEXT);
        for (int slot = 0; slot < 3; slot++) {
            CHECK.due("hold(" + slot + ")", x.hold(slot), true);
            CHECK.due("SLOTS that hold something", x.count(14), slot + 1);
        }
        CHECK.due("hold(2) anew", x.hold(2), true);
        CHECK.due("SLOTS that hold something", x.count(14), 3);
        for (int slot = 0; slot < 3; slot++) {
            CHECK.due("restore(" + slot + ")", x.restore(slot), true);
            CHECK.due("it stays there", x.count(14), 3);
        }
    }

    private static SiegeInk busy() {
        SiegeInk x = Check.town(TEXT);
        x.order(0, 0, 2);
        x.letter(1, 1);
        x.lend(0, 1, 5);
        x.water(1, 4);
        x.days(1);
        return x;
    }

    private static void heldIsHeld() {
        for (int slot = 0; slot < 3; slot++) {
            SiegeInk x = busy();
            x.hold(slot);
            x.days(40);
            x.blot(1, 0);
            x.water(2, 7);
            x.undo();
            CHECK.due("restore(" + slot + ")", x.restore(slot), true);
            CHECK.due("nothing can be undone then", x.undo(), false);
            CHECK.due("things that can be undone", x.count(12), 0);
            SiegeInk same = busy();
            same.hold(slot);
            Twins.alike(CHECK, "as it was held in " + slot, Twins.now(x), Twins.now(same));
            // It stays there, whatever is done since.
            x.letter(0, 2);
            x.days(60);
            CHECK.due("restore(" + slot + ") once more", x.restore(slot), true);
            Twins.alike(CHECK, "as it was held in " + slot + ", once more", Twins.now(x), Twins.now(same));
        }
        // Three towns, each in its own SLOT.
        SiegeInk x = busy();
        for (int slot = 0; slot < 3; slot++) {
            x.days(1);
            x.letter(0, slot + 1);
            x.hold(slot);
        }
        int[] order = {1, 0, 2, 0, 1};
        for (int slot : order) {
            CHECK.due("restore(" + slot + ")", x.restore(slot), true);
            CHECK.due("the day", x.count(6), slot + 2);
            CHECK.due("the last LETTER", x.page(x.count(8) - 1, 2), slot + 1);
        }
    }

    private static void notHeld() {
        // The tape, what is TOLD and the text itself are not held.
        SiegeInk x = busy();
        x.tell(1, 50);
        x.hold(0);
        x.tell(2, 60);
        Check.feed(x, "faint");
        CHECK.due("read", x.read(), 1);
        Check.feed(x, "grace 9");
        CHECK.due("restore", x.restore(0), true);
        CHECK.due("both are TOLD", x.count(13), 2);
        CHECK.due("the tape", x.count(11), 7);
        CHECK.due("place", x.place(), 5);
        CHECK.due("hold leaves what can be undone", x.letter(0, 1), 1);
        x.hold(1);
        CHECK.due("things that can be undone", x.count(12), 1);
        CHECK.due("undo", x.undo(), true);
        CHECK.due("and undo leaves what is held", x.count(14), 2);
        CHECK.due("restore(1)", x.restore(1), true);
        CHECK.due("with the LETTER", x.page(x.count(8) - 1, 1), -2);
    }

    private static void heldAnew() {
        SiegeInk x = busy();
        x.hold(0);
        x.days(5);
        x.hold(0);
        x.days(5);
        x.restore(0);
        CHECK.due("the later day", x.count(6), 6);
        // 200 PAGES are held as well as none.
        x = Check.town("man a 99 0 1 999; good g 1 999; price g = 0;" + "buys a g = 1;".repeat(12));
        x.hold(0);
        x.days(20);
        x.hold(1);
        CHECK.due("PAGES", x.count(8), 200);
        x.restore(0);
        CHECK.due("none", x.count(8), 0);
        x.letter(0, 3);
        x.restore(1);
        CHECK.due("200 again", x.count(8), 200);
        CHECK.due("the first", x.page(0, 1), 0);
        CHECK.due("the last", x.page(199, 5), 16);
        CHECK.due("full", x.letter(0, 1), -2);
        Check.read(x, "man a 1 1 1 1;");
        for (int slot = 0; slot < 3; slot++) {
            CHECK.due("a new text: nothing is held", x.restore(slot), false);
        }
        CHECK.due("SLOTS that hold something", x.count(14), 0);
    }

    // ---- promise 33

    private static void counts() {
        int[] no = {-1, 15, 16, MIN, MAX};
        for (int what : no) {
            TOWN.unchanged("count(" + what + ")", -1, x -> x.count(what));
        }
        // a gave 4 for two of g; b gave 3 on each of two days; 170 at the start.
        int[] due = {3, 2, 1, 1, 40, 1, 2, 2, 3, 10, 160, 0, 6, 2, 1};
        for (int what = 0; what < due.length; what++) {
            int asked = what;
            TOWN.unchanged("count(" + what + ")", due[what], x -> x.count(asked));
        }
        SiegeInk x = Check.town("man a 9999 9999 1 0; man b 9999 9999 1 0; grace 0;");
        x.days(1);
        CHECK.due("DROPS of the dead are counted", x.count(10), 4 * 9999);
        CHECK.due("who live", x.count(7), 0);
    }
}
