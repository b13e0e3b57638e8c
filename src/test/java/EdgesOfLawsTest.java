/** LAWS ('Terms' II): what each sees, how it is held, ints that wrap, divisions by 0, and which E is looked at. */
public final class EdgesOfLawsTest {
    private static final Check CHECK = new Check("EdgesOfLawsTest");
    private static final String MIN = "8192*8192*32";
    private static final String MAX = "(8192*8192*32-1)";

    public static void main(String[] args) {
        pricesAreHeld();
        dipsAreHeld();
        buysAreHeld();
        wantsAreHeld();
        less();
        theFirstThatHolds();
        order();
        rounding();
        wrapping();
        byZero();
        byZeroOfEachKind();
        onlyWhatIsLookedAt();
        pricesSee();
        pricesSeeThoseWhoLive();
        dipsSee();
        buysSee();
        wantsSee();
        CHECK.end();
    }

    private static int price(String law) {
        return Check.town("man a 30 10 2 7; good g 3 20; price g = " + law + ";").good(0, 2);
    }

    private static void is(String law, int due) {
        CHECK.due("price g = " + law, price(law), due);
    }

    // ---- held to

    private static void pricesAreHeld() {
        is("0", 0);
        is("1", 1);
        is("98", 98);
        is("99", 99);
        is("100", 99);
        is("9999", 99);
        is("0-1", 0);
        is("0-9999", 0);
        is(MAX, 99);
        is(MIN, 0);
    }

    private static int dips(String law) {
        return Check.town("man a 30 10 2 7; dips a = " + law + ";").man(0, 7);
    }

    private static void dipsAreHeld() {
        CHECK.due("dips 0", dips("0"), 0);
        CHECK.due("dips 1", dips("1"), 1);
        CHECK.due("dips 99", dips("99"), 99);
        CHECK.due("dips 100", dips("100"), 99);
        CHECK.due("dips -1", dips("0-1"), 0);
        CHECK.due("dips MAX", dips(MAX), 99);
        CHECK.due("dips MIN", dips(MIN), 0);
    }

    /** How many are bought in one day, where STORE and DROPS are enough for 999. */
    private static int buys(String law) {
        SiegeInk x = Check.town("man a 9999 0 1 0; good g 1 999; buys a g = " + law + ";");
        x.days(1);
        CHECK.due("PAGES of buys = " + law, x.count(8), x.good(0, 3) == 0 ? 0 : 1);
        return x.good(0, 3);
    }

    private static void buysAreHeld() {
        CHECK.due("buys 0", buys("0"), 0);
        CHECK.due("buys 1", buys("1"), 1);
        CHECK.due("buys 98", buys("98"), 98);
        CHECK.due("buys 99", buys("99"), 99);
        CHECK.due("buys 100", buys("100"), 99);
        CHECK.due("buys -1", buys("0-1"), 0);
        CHECK.due("buys MAX", buys(MAX), 99);
        CHECK.due("buys MIN", buys(MIN), 0);
    }

    /** Whether what one WANTS is below (-1), as (0) or above (1) a STORE. */
    private static int wants(String law, int store) {
        int rests = Check.town("man a 9 0 1 0; good g 1 " + store + "; wants a g = " + law + ";").settles(0, 50, 1);
        return rests == 0 ? -1 : rests == 99 ? 1 : rests == 50 ? 0 : 2;
    }

    private static void wantsAreHeld() {
        CHECK.due("wants 998 of 999", wants("998", 999), -1);
        CHECK.due("wants 999 of 999", wants("999", 999), 0);
        CHECK.due("wants 1000 of 999", wants("1000", 999), 0);
        CHECK.due("wants MAX of 999", wants(MAX, 999), 0);
        CHECK.due("wants 999 of 998", wants("999", 998), 1);
        CHECK.due("wants 0 of 0", wants("0", 0), 0);
        CHECK.due("wants 1 of 0", wants("1", 0), 1);
        CHECK.due("wants -1 of 0", wants("0-1", 0), 0);
        CHECK.due("wants MIN of 0", wants(MIN, 0), 0);
        CHECK.due("wants 0 of 1", wants("0", 1), -1);
        // Each is held for itself, then they are summed: 999 + 999 + 0 is above 999.
        CHECK.due("two of 1000 and one below 0", wants("1000; wants a g = 1000; wants a g = 0 - 5000", 999), 1);
        CHECK.due("one, and one below 0", wants("999; wants a g = 0 - 5000", 999), 0);
    }

    // ---- ifs

    private static void less() {
        is("if 3<4 then 1 else 2", 1);
        is("if 4<4 then 1 else 2", 2);
        is("if 5<4 then 1 else 2", 2);
        is("if 0<0 then 1 else 2", 2);
        is("if 0-1<0 then 1 else 2", 1);
        is("if 0<0-1 then 1 else 2", 2);
        is("if 0-2<0-1 then 1 else 2", 1);
        is("if " + MIN + "<" + MAX + " then 1 else 2", 1);
        is("if " + MAX + "<" + MIN + " then 1 else 2", 2);
        is("if " + MIN + "<" + MIN + " then 1 else 2", 2);
        is("if " + MAX + "-1<" + MAX + " then 1 else 2", 1);
        // MIN - 1 is MAX.
        is("if " + MIN + "-1<0 then 1 else 2", 2);
    }

    private static void theFirstThatHolds() {
        for (int holds = 0; holds <= 4; holds++) {
            StringBuilder law = new StringBuilder();
            for (int i = 0; i < 4; i++) {
                law.append(i < holds ? "if 1<1 then " : "if 0<1 then ").append(10 + i).append(" else ");
            }
            is(law + "14", 10 + holds);
        }
        is("if 2<1 then 3 else if 1<2 then 4 else if 2<1 then 5 else if 1<2 then 6 else 7", 4);
    }

    // ---- sums

    private static void order() {
        is("2+3*4", 14);
        is("2*3+4", 10);
        is("(2+3)*4", 20);
        is("2*(3+4)", 14);
        is("20-5-3", 12);
        is("20-(5-3)", 18);
        is("20-5+3", 18);
        is("64/8/2", 4);
        is("64/(8/2)", 16);
        is("7/2*2", 6);
        is("7*2/2", 7);
        is("2*7/4", 3);
        is("20-12/4*2+1", 15);
        is("((((((7))))))", 7);
        is("1+(2*(3+(4-(5-(6-(3))))))", 1 + 2 * (3 + (4 - (5 - (6 - 3)))));
        is("if 1+1<2*2 then 3*3+1 else 0", 10);
    }

    private static void rounding() {
        is("7/2", 3);
        is("1/2", 0);
        is("99/100", 0);
        is("20+(0-7)/2", 17);
        is("20+7/(0-2)", 17);
        is("20+(0-7)/(0-2)", 23);
        is("20+(0-1)/2", 20);
        is("20+(0-8)/2", 16);
        is("if (0-1)/2<0 then 1 else 2", 2);
        is("0/5+3", 3);
    }

    private static void wrapping() {
        is("if " + MIN + "<0 then 1 else 2", 1);
        is("if 0<" + MAX + " then 1 else 2", 1);
        is("if " + MAX + "+1<0 then 1 else 2", 1);
        is("if 0<" + MIN + "-1 then 1 else 2", 1);
        is("if " + MAX + "+1<" + MIN + "+1 then 1 else 2", 1);
        is("8192*8192*64+5", 5);
        is("8192*8192*8192+6", 6);
        is(MAX + "*" + MAX, 1);
        is(MAX + "+" + MAX + "+9", 7);
        is(MIN + "+" + MIN + "+9", 9);
        is("if 0-" + MIN + "<0 then 1 else 2", 1);
        is("if " + MIN + "/(0-1)<0 then 1 else 2", 1);
        is("if " + MIN + "*(0-1)<0 then 1 else 2", 1);
        is(MIN + "/(0-1)/8192/8192+40", 8);
        is(MAX + "/8192/8192", 31);
        // 9999 * 9999 * 9999 is -1027349969 in 32 bits.
        is("60+9999*9999*9999/9999/9999", 60-10);
    }

    // ---- divisions by 0

    private static void byZero() {
        is("5/0", 0);
        is("0/0", 0);
        is("7+5/0", 0);
        is("5/0+7", 0);
        is("7-5/(3-3)", 0);
        is("7+0*(5/0)", 0);
        is("7+0/(5/0)", 0);
        is("(7+(1/0))*0+9", 0);
        is("9+5/(1/2)", 0);
        is("9+5/(8192*8192*64)", 0);
        is("9+5/cost", 0);
        is("9+5/day", 0);
        is("9+5/bought", 0);
        is("9+40/store", 11);
    }

    private static void byZeroOfEachKind() {
        CHECK.due("dips by 0", dips("7+1/0"), 0);
        CHECK.due("dips by store, which is 0", dips("7+1/store"), 0);
        CHECK.due("dips by cost, which is 0", dips("7+1/cost"), 0);
        CHECK.due("dips by bought, of no lines", dips("7+1/bought"), 0);
        CHECK.due("buys by 0", buys("7+1/0"), 0);
        CHECK.due("wants by 0", wants("7+1/0", 0), 0);
        CHECK.due("wants by 0 are less than 7", wants("7+1/0", 7), -1);
        CHECK.due("of two WANTS only that one is 0", wants("7+1/0; wants a g = 5", 5), 0);
        SiegeInk x = Check.town("man a 5 0 1 9; good g 1 9; price g = 3/0; dips a = 3/day;");
        CHECK.due("a PRICE of 0: for nothing", x.order(0, 0, 9), 0);
        CHECK.due("DIPS of 0: for nothing", x.letter(0, 999), 0);
        CHECK.due("he has what he had", x.man(0, 0), 5);
        x.days(1);
        CHECK.due("by the day 1", x.man(0, 7), 3);
    }

    private static void onlyWhatIsLookedAt() {
        is("if 1<2 then 3 else 1/0", 3);
        is("if 2<1 then 1/0 else 3", 3);
        is("if 1<2 then 1/0 else 3", 0);
        is("if 2<1 then 3 else 1/0", 0);
        is("if 1/0<2 then 3 else 4", 0);
        is("if 2<1/0 then 3 else 4", 0);
        is("if 1<2 then 3 else if 1/0<2 then 4 else 5", 3);
        is("if 2<1 then 3 else if 1/0<2 then 4 else 5", 0);
        is("if 2<1 then 1/0 else if 1<2 then 4 else 1/0", 4);
        is("if 2<1 then 1/0 else if 2<1 then 1/0 else if 2<1 then 1/0 else if 2<1 then 1/0 else 8", 8);
        is("if 2<1 then 1/0 else if 2<1 then 1/0 else if 2<1 then 1/0 else if 1<2 then 9 else 1/0", 9);
    }

    // ---- what is seen

    private static void pricesSee() {
        SiegeInk x = Check.town("man a 30 10 2 7; man b 5 1 1 8; good g 3 20; good h 1 4;"
            + "price g = ink; price h = soot; dips a = 0;");
        CHECK.due("ink of all", x.good(0, 2), 46);
        CHECK.due("soot of all", x.good(1, 2), 35);
        x = Check.town("man a 30 10 2 7; man b 5 1 1 8; good g 3 20; good h 1 4; good i 1 5;"
            + "price g = larder; price h = day + 3; price i = store; dips a = 0;");
        CHECK.due("larder of all", x.good(0, 2), 15);
        CHECK.due("the day", x.good(1, 2), 3);
        CHECK.due("its own STORE", x.good(2, 2), 5);
        x.days(2);
        CHECK.due("larder two days on", x.good(0, 2), 3 + 6);
        CHECK.due("the day two days on", x.good(1, 2), 5);
        x.order(0, 2, 2);
        CHECK.due("STORE behind an ORDER", x.good(2, 2), 3);
        x = Check.town("man a 30 10 2 7; man b 5 1 1 8; good g 3 20; good h 1 9; price g = bought; price h = cost + 4;");
        CHECK.due("none ORDERED: for nothing", x.order(0, 0, 3), 0);
        CHECK.due("three were ORDERED", x.good(0, 2), 3);
        CHECK.due("one more, by the other", x.order(1, 0, 1), 3);
        CHECK.due("four were ORDERED, by all", x.good(0, 2), 4);
        CHECK.due("cost is 0", x.good(1, 2), 4);
        x.order(0, 1, 1);
        CHECK.due("of another GOOD none were", x.good(0, 2), 4);
        CHECK.due("without MEN", Check.town("good g 1 5; price g = ink + soot + larder + store;").good(0, 2), 5);
    }

    private static void pricesSeeThoseWhoLive() {
        SiegeInk x = Check.town("man a 30 10 2 0; man b 5 1 1 9; man c 7 0 9 8; good g 3 20; good h 1 1; good i 1 1;"
            + "price g = ink; price h = soot; price i = larder; grace 0;");
        CHECK.due("ink of all", x.good(0, 2), 53);
        CHECK.due("soot of all", x.good(1, 2), 42);
        CHECK.due("larder of all", x.good(2, 2), 17);
        x.days(1);
        CHECK.due("only b lives", x.count(7), 1);
        CHECK.due("ink of those who live", x.good(0, 2), 6);
        CHECK.due("soot of those who live", x.good(1, 2), 5);
        CHECK.due("larder of those who live", x.good(2, 2), 8);
        x.undo();
        CHECK.due("ink of all again", x.good(0, 2), 53);
        x.days(100);
        CHECK.due("none lives", x.good(0, 2), 0);
    }

    private static void dipsSee() {
        SiegeInk x = Check.town("man a 40 10 2 9; man b 60 1 1 8; good g 1 9;"
            + "dips a = ink; dips b = soot;");
        CHECK.due("his DROPS", x.man(0, 7), 50);
        CHECK.due("his SOOT", x.man(1, 7), 60);
        x = Check.town("man a 40 10 2 9; man b 60 1 1 8; man c 9 0 1 9; good g 1 9;"
            + "dips a = larder; dips b = day + 1; dips c = bought + 2;");
        CHECK.due("his LARDER", x.man(0, 7), 9);
        CHECK.due("the day", x.man(1, 7), 1);
        CHECK.due("no lines", x.man(2, 7), 2);
        x.days(1);
        CHECK.due("his LARDER a day on", x.man(0, 7), 7);
        CHECK.due("the day 1", x.man(1, 7), 2);
        CHECK.due("a LETTER of two lines", x.letter(2, 2), 4);
        CHECK.due("two lines", x.man(2, 7), 4);
        CHECK.due("another's ORDER", x.order(1, 0, 3), 6);
        CHECK.due("are not his lines", x.man(2, 7), 4);
        CHECK.due("his own ORDER", x.order(2, 0, 1), 4);
        CHECK.due("is one line more", x.man(2, 7), 5);
        CHECK.due("store and cost are 0", Check.town("man a 9 0 1 9; good g 1 9; price g = 5; dips a = store + cost + 6;").man(0, 7), 6);
        // For him who lives no more they are told all the same.
        x = Check.town("man a 9 0 1 0; dips a = ink + day; grace 0;");
        x.days(2);
        CHECK.due("of the dead", x.man(0, 7), 11);
    }

    private static int bought(String law) {
        SiegeInk x = Check.town("man a 20 3 2 5; man b 500 0 1 9; good g 1 30; good h 1 99; price h = 2; buys a h = 1; dips a = 0;"
            + "buys b g = 2; price g = 4; buys a g = " + law + ";");
        x.days(1);
        return x.count(8) < 3 ? 0 : x.page(2, 2);
    }

    private static void buysSee() {
        CHECK.due("his DROPS", bought("ink"), 23);
        CHECK.due("his SOOT", bought("soot"), 20);
        // He has bought one h for his LARDER already.
        CHECK.due("his LARDER", bought("larder"), 6);
        CHECK.due("the day", bought("day + 1"), 1);
        CHECK.due("the STORE of the GOOD", bought("store - 20"), 8);
        CHECK.due("how many of the GOOD were ORDERED", bought("bought + 10"), 12);
        CHECK.due("the PRICE of the GOOD", bought("cost"), 4);
        SiegeInk x = Check.town("man a 99 0 1 0; good g 1 99; price g = 500; buys a g = cost - 98;");
        x.days(1);
        CHECK.due("the PRICE as it is held", x.good(0, 3), 1);
    }

    /** The STORE of 40 at which it rests at once shows what a law WANTS. */
    private static int wanted(String law, int price) {
        for (int n = 0; n <= 100; n++) {
            String rest = n < 40 ? "; wants b g = " + (40 - n) : "";
            String less = n > 40 ? " - " + (n - 40) : "";
            SiegeInk x = Check.town("man a 20 3 2 5; man b 50 0 1 9; good g 1 43; price g = 7; wants a g = (" + law + ")" + less + rest + ";");
            x.order(1, 0, 3);
            if (x.settles(0, price, 0) == 0) {
                return n;
            }
        }
        return -1;
    }

    private static void wantsSee() {
        CHECK.due("his DROPS", wanted("ink", 50), 23);
        CHECK.due("his SOOT", wanted("soot", 50), 20);
        CHECK.due("his LARDER", wanted("larder", 50), 5);
        CHECK.due("the day", wanted("day + 1", 50), 1);
        CHECK.due("the STORE of the GOOD", wanted("store", 50), 40);
        CHECK.due("how many of the GOOD were ORDERED", wanted("bought", 50), 3);
        CHECK.due("the price that is asked", wanted("cost", 50), 50);
        CHECK.due("another price that is asked", wanted("cost", 12), 12);
    }
}
