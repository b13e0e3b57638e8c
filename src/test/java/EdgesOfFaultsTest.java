/** The FAULTS 2 to 5 of 'Terms' I just at each bound and one beyond it, which of several is told, and what stays. */
public final class EdgesOfFaultsTest {
    private static final Check CHECK = new Check("EdgesOfFaultsTest");
    private static final String PRICE = "good g 1 1;price g=";
    private static final String BOTH = "man a 1 1 1 1;good g 1 1;";

    public static void main(String[] args) {
        menAndGoods();
        buysAndWants();
        pricesAndDipsHaveRoom();
        ifs();
        brackets();
        tokens();
        ofOnePlaceTheLeast();
        theFirstByItsPlace();
        twice();
        toldAhead();
        numbers();
        namesAndNumbersInOrder();
        defaults();
        theLastOneStands();
        lawsStayBound();
        numberedAsTheyStand();
        faultChangesNothing();
        aTextIsInPlaceOfTheOneAhead();
        aFaultLeavesNothingBehind();
        manyTextsOneByOne();
        CHECK.end();
    }

    private static String times(String part, int n) {
        return part.repeat(n);
    }

    private static String men(int n) {
        StringBuilder s = new StringBuilder();
        for (int i = 0; i < n; i++) {
            s.append("man m").append((char) ('a' + i)).append(" 1 1 1 1;");
        }
        return s.toString();
    }

    private static String goods(int n) {
        StringBuilder s = new StringBuilder();
        for (int i = 0; i < n; i++) {
            s.append("good g").append((char) ('a' + i)).append(" 1 1;");
        }
        return s.toString();
    }

    // ---- ROOM

    private static void menAndGoods() {
        CHECK.fine(men(6));
        CHECK.fault(men(7), 2, men(6).length());
        CHECK.fault(men(8), 2, men(6).length());
        CHECK.fine(goods(5));
        CHECK.fault(goods(6), 2, goods(5).length());
        CHECK.fine(men(6) + goods(5));
        CHECK.fine(goods(5) + men(6));
        CHECK.fault(men(6) + goods(6), 2, men(6).length() + goods(5).length());
        CHECK.fault(goods(5) + men(7), 2, goods(5).length() + men(6).length());
        CHECK.due("six MEN", Check.town(men(6) + goods(5)).count(0), 6);
        CHECK.due("five GOODS", Check.town(men(6) + goods(5)).count(1), 5);
        // At its first TOKEN, however it goes on.
        CHECK.fault(men(6) + " man", 2, men(6).length() + 1);
        CHECK.fault(men(6) + "man #", 2, men(6).length());
        CHECK.fault(men(6) + "man ma 1 1 0 1;", 2, men(6).length());
        CHECK.fault(goods(5) + "\ngood", 2, goods(5).length() + 1);
    }

    private static void buysAndWants() {
        String buys = times("buys a g=1;", 12);
        String wants = times("wants a g=1;", 12);
        CHECK.fine(BOTH + buys + wants);
        CHECK.due("twelve BUYS", Check.town(BOTH + buys + wants).count(2), 12);
        CHECK.due("twelve WANTS", Check.town(BOTH + buys + wants).count(3), 12);
        CHECK.due("eleven BUYS", Check.town(BOTH + times("buys a g=1;", 11)).count(2), 11);
        CHECK.fault(BOTH + buys + "buys a g=1;", 2, BOTH.length() + buys.length());
        CHECK.fault(BOTH + wants + "wants a g=1;", 2, BOTH.length() + wants.length());
        CHECK.fault(BOTH + buys + wants + " buys", 2, BOTH.length() + buys.length() + wants.length() + 1);
        CHECK.fault(BOTH + wants + buys + " wants", 2, BOTH.length() + buys.length() + wants.length() + 1);
    }

    private static void pricesAndDipsHaveRoom() {
        // Of these, of faint and of grace only TOKENS bound the number.
        CHECK.fine(BOTH + times("price g=1;", 40) + times("dips a=1;", 37));
        CHECK.fine(times("faint 1;", 66) + times("grace 1;", 67));
    }

    private static String law(int ifs) {
        return times("if 1<2 then 3 else ", ifs) + "4;";
    }

    private static void ifs() {
        CHECK.fine(PRICE + law(4));
        CHECK.fault(PRICE + law(5), 2, PRICE.length() + 4 * 19);
        CHECK.fault(PRICE + law(6), 2, PRICE.length() + 4 * 19);
        CHECK.fault(PRICE + times("if 1<2 then 3 else ", 4) + "if", 2, PRICE.length() + 4 * 19);
        CHECK.fault(PRICE + times("if 1<2 then 3 else ", 4) + "if#", 2, PRICE.length() + 4 * 19);
        // Of one LAW: the next one has four again.
        CHECK.fine(BOTH + "price g=" + law(4) + "dips a=" + law(4) + "buys a g=" + law(4) + "wants a g=" + law(4) + "wants a g=" + law(4));
        String two = BOTH + "buys a g=" + law(4) + "wants a g=";
        CHECK.fault(two + law(5), 2, two.length() + 4 * 19);
    }

    private static String nested(int depth) {
        return times("(", depth) + "1" + times(")", depth);
    }

    private static void brackets() {
        CHECK.fine(PRICE + nested(6) + ";");
        CHECK.fault(PRICE + nested(7) + ";", 2, PRICE.length() + 6);
        CHECK.fault(PRICE + times("(", 7), 2, PRICE.length() + 6);
        CHECK.fault(PRICE + times("(", 6), 1, PRICE.length() + 6);
        // Side by side they are not within one another.
        CHECK.fine(PRICE + "(1)+(1)+(1)+(1)+(1)+(1)+(1)+(1);");
        CHECK.fine(PRICE + nested(6) + "+" + nested(6) + "*" + nested(6) + ";");
        CHECK.fine(PRICE + "(((((1+(1))*((1))))))+1;");
        CHECK.fine(PRICE + "(((((1+(1))))))+1;");
        CHECK.fault(PRICE + "(((((1+((1)))))))+1;", 2, PRICE.length() + 8);
        CHECK.fault(PRICE + nested(6) + "+" + nested(7) + ";", 2, PRICE.length() + 13 + 1 + 6);
        // In each place of an E.
        CHECK.fine(PRICE + "if " + nested(6) + "<" + nested(6) + " then " + nested(6) + " else " + nested(6) + ";");
        CHECK.fault(PRICE + "if " + nested(7), 2, PRICE.length() + 3 + 6);
        CHECK.fault(PRICE + "if 1<" + nested(7), 2, PRICE.length() + 5 + 6);
        CHECK.fault(PRICE + "if 1<2 then " + nested(7), 2, PRICE.length() + 12 + 6);
        CHECK.fault(PRICE + "if 1<2 then 3 else " + nested(7), 2, PRICE.length() + 19 + 6);
        // The next LAW begins outside of all.
        CHECK.fine(PRICE + nested(6) + ";price g=" + nested(6) + ";");
    }

    /** So many TOKENS, all of them fine: ten of good and price, two more with each +, three of each faint. */
    private static String ofTokens(int n) {
        int plus = 0;
        while ((n - 10 - 2 * plus) % 3 != 0) {
            plus++;
        }
        return "good g 1 1;price g=1" + times("+1", plus) + ";" + times("faint 1;", (n - 10 - 2 * plus) / 3);
    }

    private static void tokens() {
        for (int n = 397; n <= 400; n++) {
            CHECK.fine(ofTokens(n));
        }
        String just = ofTokens(400);
        CHECK.fine(just + times(" ", 2000 - just.length()));
        CHECK.fault(just + "faint", 2, just.length());
        CHECK.fault(just + "  grace 1;", 2, just.length() + 2);
        CHECK.fault(just + "man", 2, just.length());
        String less = ofTokens(399);
        CHECK.fault(less + "faint 1;", 2, less.length() + 6);
        CHECK.fault(less + "faint", 1, less.length() + 5);
        less = ofTokens(398);
        CHECK.fault(less + "faint 1;", 2, less.length() + 7);
        CHECK.fault(less + "faint 1", 1, less.length() + 7);
        // Behind the 401st nothing is looked at, nor is what would be told by then.
        CHECK.fault(less + "faint 1;#", 2, less.length() + 7);
        CHECK.fault(less + "faint 101;", 2, less.length() + 9);
        CHECK.fault(PRICE + "1" + times("+1", 195) + ";", 0, -1);
        CHECK.fault(PRICE + "1" + times("+1", 196) + ";", 2, PRICE.length() + 1 + 2 * 195 + 1);
        CHECK.fault(PRICE + times("1+", 990), 2, PRICE.length() + 392);
    }

    // ---- which of several

    private static void ofOnePlaceTheLeast() {
        String just = ofTokens(400);
        CHECK.fault(just + "foo", 1, just.length());
        CHECK.fault(just + ";", 1, just.length());
        CHECK.fault(just + "#", 1, just.length());
        CHECK.fault(just + "abcdefghi", 1, just.length());
        String less = ofTokens(399);
        CHECK.fault(less + "faint x", 1, less.length() + 6);
        CHECK.fault(less + "faint 12345;", 1, less.length() + 6);
        // An if that may not stand there is SYNTAX, a fifth or not.
        CHECK.fault(PRICE + times("if 1<2 then 3 else ", 4) + "4 if", 1, PRICE.length() + 4 * 19 + 2);
        CHECK.fault(PRICE + times("(", 6) + "1(", 1, PRICE.length() + 7);
        CHECK.fault(PRICE + times("if 1<2 then 3 else ", 4) + "(if", 1, PRICE.length() + 4 * 19 + 1);
    }

    private static void theFirstByItsPlace() {
        CHECK.fault(men(7) + "#", 2, men(6).length());
        CHECK.fault("#" + men(7), 1, 0);
        CHECK.fault(men(6) + "#" + men(1), 1, men(6).length());
        CHECK.fault(PRICE + nested(7) + ";" + law(5), 2, PRICE.length() + 6);
        CHECK.fault(PRICE + law(5) + nested(7), 2, PRICE.length() + 4 * 19);
        // 1 and 2 come ahead of 3, 4 and 5, wherever they stand.
        CHECK.fault("man a 1 1 1 1;man a 1 1 1 1;#", 1, 28);
        CHECK.fault("price g=1;faint", 1, 15);
        CHECK.fault("faint 101;;", 1, 10);
        CHECK.fault("faint 101;" + men(7), 2, 10 + men(6).length());
        CHECK.fault("man ma 1 1 1 1;" + men(6), 2, 15 + men(5).length());
        CHECK.fault("dips a=" + nested(7) + ";", 2, 7 + 6);
        CHECK.fault("dips a=" + law(5), 2, 7 + 4 * 19);
        CHECK.fault("faint 101;" + ofTokens(398), 2, 10 + ofTokens(398).length() - 1);
    }

    // ---- TWICE and NAME

    private static void twice() {
        CHECK.fault("man a 1 1 1 1;man a 1 1 1 1;", 3, 18);
        CHECK.fault("good a 1 1;good a 1 1;", 3, 16);
        CHECK.fault("man a 1 1 1 1;good a 1 1;", 3, 19);
        CHECK.fault("good a 1 1;man a 1 1 1 1;", 3, 15);
        CHECK.fault(men(6) + "good mf 1 1;", 3, men(6).length() + 5);
        CHECK.fault(goods(5) + "man ge 1 1 1 1;", 3, goods(5).length() + 4);
        CHECK.fault(men(5) + "man ma 1 1 1 1;", 3, men(5).length() + 4);
        CHECK.fault(goods(4) + "good ga 1 1;", 3, goods(4).length() + 5);
        // Of several the first.
        CHECK.fault("man a 1 1 1 1;man b 1 1 1 1;man b 1 1 1 1;man a 1 1 1 1;", 3, 32);
        CHECK.fine("man a 1 1 1 1;man aa 1 1 1 1;good aaa 1 1;");
    }

    private static void toldAhead() {
        String[] starts = {"price ", "dips ", "buys ", "wants "};
        for (String start : starts) {
            String names = start.equals("price ") ? "g" : start.equals("dips ") ? "a" : "a g";
            CHECK.fine(BOTH + start + names + "=1;");
            CHECK.fault(start + names + "=1;" + BOTH, 4, start.length());
        }
        int at = BOTH.length();
        CHECK.fault(BOTH + "price a=1;", 4, at + 6);
        CHECK.fault(BOTH + "price h=1;", 4, at + 6);
        CHECK.fault(BOTH + "dips g=1;", 4, at + 5);
        CHECK.fault(BOTH + "dips b=1;", 4, at + 5);
        CHECK.fault(BOTH + "buys b g=1;", 4, at + 5);
        CHECK.fault(BOTH + "buys a h=1;", 4, at + 7);
        CHECK.fault(BOTH + "buys g a=1;", 4, at + 5);
        CHECK.fault(BOTH + "buys a a=1;", 4, at + 7);
        CHECK.fault(BOTH + "buys g g=1;", 4, at + 5);
        CHECK.fault(BOTH + "wants b h=1;", 4, at + 6);
        CHECK.fault(BOTH + "wants a a=1;", 4, at + 8);
        CHECK.fault(BOTH + "wants g g=1;", 4, at + 6);
        // Told only behind.
        CHECK.fault("man a 1 1 1 1;buys a g=1;good g 1 1;", 4, 21);
        CHECK.fault("good g 1 1;wants a g=1;man a 1 1 1 1;", 4, 17);
        CHECK.fine("good g 1 1;price g=1;man a 1 1 1 1;dips a=1;buys a g=1;");
    }

    // ---- WRONG

    /** The number at the x of a text may be low .. high, of 0 .. 9999. */
    private static void bounds(String text, int low, int high) {
        int at = text.indexOf('?');
        int[] tried = {0, low - 1, low, low + 1, high - 1, high, high + 1, 9999};
        for (int n : tried) {
            if (n >= 0 && n <= 9999) {
                boolean ok = n >= low && n <= high;
                CHECK.fault(text.replace("?", String.valueOf(n)), ok ? 0 : 5, ok ? -1 : at);
            }
        }
    }

    private static void numbers() {
        bounds("man a ? 1 1 1;", 0, 9999);
        bounds("man a 1 ? 1 1;", 0, 9999);
        bounds("man a 1 1 ? 1;", 1, 9);
        bounds("man a 1 1 1 ?;", 0, 999);
        bounds("good g ? 1;", 1, 9);
        bounds("good g 1 ?;", 0, 999);
        bounds("faint ?;", 0, 100);
        bounds("grace ?;", 0, 9);
        bounds("good g 1 1;price g=?;", 0, 9999);
        bounds(BOTH + "buys a g=if ?<1 then 2 else 3;", 0, 9999);
        CHECK.due("FAINT 0", Check.town("faint 0;").count(4), 0);
        CHECK.due("FAINT 100", Check.town("faint 100;").count(4), 100);
        CHECK.due("GRACE 0", Check.town("grace 0;").count(5), 0);
        CHECK.due("GRACE 9", Check.town("grace 9;").count(5), 9);
        SiegeInk x = Check.town("man a 0 9999 9 999; man b 9999 0 1 0; good g 9 999; good h 1 0;");
        int[] a = {9999, 0, 0, 999};
        int[] b = {9999, 9999, 100, 0};
        for (int what = 0; what < 4; what++) {
            CHECK.due("a at the bounds: " + what, x.man(0, what), a[what]);
            CHECK.due("b at the bounds: " + what, x.man(1, what), b[what]);
        }
        CHECK.due("HUNGER 9", x.best(0, 2), (999 + 0) / 9);
        CHECK.due("BREAD 9", x.good(0, 1), 9);
        CHECK.due("STORE 999", x.good(0, 0), 999);
        CHECK.due("BREAD 1", x.good(1, 1), 1);
        CHECK.due("STORE 0", x.good(1, 0), 0);
    }

    private static void namesAndNumbersInOrder() {
        // 3, 4 and 5 are one round: the first by its place.
        CHECK.fault("man a 1 1 0 1;man a 1 1 1 1;", 5, 10);
        CHECK.fault("man a 1 1 1 1;man a 1 1 0 1;", 3, 18);
        CHECK.fault("dips a=1;faint 101;", 4, 5);
        CHECK.fault("faint 101;dips a=1;", 5, 6);
        CHECK.fault("man a 1 1 1 1;dips b=1;man a 1 1 1 1;", 4, 19);
        CHECK.fault("man a 1 1 1 1;man a 1 1 1 1;dips b=1;", 3, 18);
        CHECK.fault("man a 1 1 10 1000;", 5, 10);
        CHECK.fault("man a 1 1 1 1000;good g 0 1000;", 5, 12);
        CHECK.fault("good g 10 1000;", 5, 7);
        CHECK.fault("good g 1 1000;grace 10;", 5, 9);
    }

    // ---- what stands

    private static void defaults() {
        SiegeInk x = Check.town(BOTH);
        CHECK.due("PRICE if not told", x.good(0, 2), 1);
        CHECK.due("DIPS if not told", x.man(0, 7), 1);
        CHECK.due("FAINT if not told", x.count(4), 50);
        CHECK.due("GRACE if not told", x.count(5), 2);
        CHECK.due("BUYS if not told", x.count(2), 0);
        CHECK.due("WANTS if not told", x.count(3), 0);
    }

    private static void theLastOneStands() {
        SiegeInk x = Check.town("man a 99 0 1 9;man b 99 0 1 9;good g 1 99;good h 1 99;"
            + "price g=2;price h=3;price g=4;dips b=5;dips a=6;dips b=7;faint 1;faint 2;grace 3;grace 4;"
            + "buys a g=1;buys a g=1;wants a h=1;wants a h=2;wants a h=1;");
        CHECK.due("the last price of g", x.good(0, 2), 4);
        CHECK.due("that of h", x.good(1, 2), 3);
        CHECK.due("the last dips of b", x.man(1, 7), 7);
        CHECK.due("those of a", x.man(0, 7), 6);
        CHECK.due("the last faint", x.count(4), 2);
        CHECK.due("the last grace", x.count(5), 4);
        CHECK.due("each of BUYS", x.count(2), 2);
        CHECK.due("each of WANTS", x.count(3), 3);
        x.days(1);
        CHECK.due("each BUYS", x.count(8), 2);
        // What WANTS tell is 4 in all.
        CHECK.due("above STORE", Check.town("man a 9 0 1 9;good h 1 3;wants a h=1;wants a h=2;wants a h=1;").settles(0, 5, 1), 99);
        CHECK.due("as STORE", Check.town("man a 9 0 1 9;good h 1 4;wants a h=1;wants a h=2;wants a h=1;").settles(0, 5, 1), 5);
        CHECK.due("below STORE", Check.town("man a 9 0 1 9;good h 1 5;wants a h=1;wants a h=2;wants a h=1;").settles(0, 5, 1), 0);
        // A price told ahead of another GOOD, and MEN told behind a price.
        x = Check.town("good g 1 9;price g=ink;good h 1 9;man a 7 0 1 9;man b 8 0 1 9;");
        CHECK.due("price by MEN told behind", x.good(0, 2), 15);
        CHECK.due("price of the other", x.good(1, 2), 1);
    }

    /** Six MEN, five GOODS, twelve of each: each LAW is that of its own ones. */
    private static void lawsStayBound() {
        StringBuilder s = new StringBuilder(men(6) + goods(5) + "faint 0;");
        for (int i = 0; i < 6; i++) {
            s.append("dips m").append((char) ('a' + i)).append('=').append(i + 10).append(';');
        }
        for (int i = 0; i < 5; i++) {
            s.append("price g").append((char) ('a' + i)).append('=').append(i + 20).append(';');
        }
        SiegeInk x = Check.town(s.toString());
        for (int i = 0; i < 6; i++) {
            CHECK.due("dips of " + i, x.man(i, 7), i + 10);
        }
        for (int i = 0; i < 5; i++) {
            CHECK.due("price of " + i, x.good(i, 2), i + 20);
        }
    }

    private static void numberedAsTheyStand() {
        SiegeInk x = Check.town("good z 2 20;man y 30 0 1 3;faint 1;man b 40 0 1 4;good a 5 50;"
            + "man aa 60 0 1 6;buys b a=1;wants y z=20;grace 1;good m 7 70;");
        int[] ink = {30, 40, 60};
        int[] store = {20, 50, 70};
        for (int i = 0; i < 3; i++) {
            CHECK.due("MAN " + i, x.man(i, 0), ink[i]);
            CHECK.due("GOOD " + i, x.good(i, 0), store[i]);
        }
        CHECK.due("WANTS of y and z", x.settles(0, 50, 1), 50);
        CHECK.due("WANTS of none and a", x.settles(1, 50, 1), 0);
        x.days(1);
        CHECK.due("BUYS of b", x.page(0, 0), 1);
        CHECK.due("and a", x.page(0, 1), 1);
    }

    private static void faultChangesNothing() {
        Twins town = new Twins(CHECK, "man a 60 40 1 9;man b 30 0 1 3;good g 3 9;price g=2;dips b=3;buys b g=1;wants a g=5;faint 40;grace 1;",
            x -> {
                x.order(0, 0, 2);
                x.letter(1, 1);
                x.lend(0, 1, 5);
                x.tell(3, 60);
                x.hold(1);
                x.days(2);
                x.water(0, 3);
            });
        town.unchanged("SYNTAX at the first", 1, x -> Check.read(x, "#"));
        town.unchanged("SYNTAX behind much", 1, x -> Check.read(x, men(6) + goods(5) + "faint 3;grace 9;faint"));
        town.unchanged("ROOM", 2, x -> Check.read(x, men(7)));
        town.unchanged("TWICE", 3, x -> Check.read(x, men(6) + "faint 3;grace 9;good ma 1 1;"));
        town.unchanged("NAME", 4, x -> Check.read(x, BOTH + "price g=9;dips a=9;buys a g=2;wants a g=3;price h=1;"));
        town.unchanged("WRONG", 5, x -> Check.read(x, BOTH + "price g=9;dips a=9;buys a g=2;wants a g=3;faint 101;"));
        town.unchanged("two of them", 1, x -> {
            Check.read(x, men(6) + "grace 10;");
            return Check.read(x, men(6) + goods(5) + ";");
        });
    }

    private static void aTextIsInPlaceOfTheOneAhead() {
        String text = "man c 20 5 2 7;man d 9 0 1 2;good h 2 6;buys c h=1;wants d h=2;";
        SiegeInk x = Check.town(men(6) + goods(5) + "faint 3;grace 9;price ga=5;dips ma=7;buys mb gb=1;wants ma ga=3;");
        x.letter(1, 1);
        x.lend(1, 0, 1);
        x.tell(1, 50);
        x.tell(2, 50);
        x.hold(0);
        x.hold(2);
        x.days(30);
        x.days(3);
        CHECK.due("read", Check.read(x, text), 0);
        Twins.alike(CHECK, "a new text", Twins.later(x), Twins.later(Check.town(text)));
        x = Check.town(text);
        x.order(0, 0, 1);
        x.lend(0, 1, 3);
        x.days(9);
        x.tell(1, 50);
        x.hold(1);
        CHECK.due("the same text once more", Check.read(x, text), 0);
        Twins.alike(CHECK, "all begins anew", Twins.later(x), Twins.later(Check.town(text)));
        CHECK.due("read of nothing", x.read(), 0);
        Twins.alike(CHECK, "an empty text", Twins.later(x), Twins.later(new SiegeInk()));
    }

    /** Wherever a text breaks off, the next one is read as if it had not been. */
    private static void aFaultLeavesNothingBehind() {
        String text = "man a 30 0 1 9 ; dips a = 3 ; good g 2 6 ; price g = if ( ink + ( 1 ) ) < 9 then ( 2 ) else if 3 < 2 then 4 else ( 5 * ( 1 + 1 ) ) ;"
            + " buys a g = 1 ; wants a g = 2 ; faint 7 ; grace 1 ;";
        String start = "";
        for (String token : text.split(" ")) {
            start = start.isEmpty() ? token : start + " " + token;
            SiegeInk x = new SiegeInk();
            CHECK.due("'" + start + " #'", Check.read(x, start + " #"), 1);
            CHECK.due("the whole text behind it", Check.read(x, text), 0);
            CHECK.due("its price", x.good(0, 2), 10);
            CHECK.due("its dips", x.man(0, 7), 3);
            x.days(1);
            CHECK.due("its BUYS", x.count(8), 1);
            CHECK.due("its WANTS", x.settles(0, 50, 1), 0);
        }
        String[] starts = {BOTH + "price g=((((((", BOTH + "price g=" + times("if 1<2 then 3 else ", 4), men(6) + "#", goods(5) + "#",
            BOTH + times("buys a g=1;", 12) + "#", BOTH + times("wants a g=1;", 12) + "#", ofTokens(400) + "#",
            men(6) + "good g 0 1;", goods(5) + "good ga 1 1;", BOTH + "dips a=1;dips b=1;"};
        for (String one : starts) {
            SiegeInk x = new SiegeInk();
            CHECK.due("a FAULT in " + one, Check.read(x, one) != 0, true);
            CHECK.due("all the room there is", Check.read(x, men(6) + goods(5) + times("buys ma ga=1;", 12) + times("wants mb gb=1;", 12)
                + "price ga=" + law(4) + "price gb=" + nested(6) + ";"), 0);
            CHECK.due("MEN", x.count(0), 6);
            CHECK.due("GOODS", x.count(1), 5);
            CHECK.due("BUYS", x.count(2), 12);
            CHECK.due("WANTS", x.count(3), 12);
            CHECK.due("PRICE", x.good(0, 2), 3);
        }
    }

    /** LAWS of 390 TOKENS again and again, and a basket of more and of fewer GOODS. */
    private static void manyTextsOneByOne() {
        SiegeInk x = new SiegeInk();
        for (int i = 1; i <= 8; i++) {
            CHECK.due("text " + i, Check.read(x, PRICE + i + times("+0", 194) + ";"), 0);
            CHECK.due("its price", x.good(0, 2), i);
            CHECK.due("another", Check.read(x, "good h 1 1;faint 3;"), 0);
            CHECK.due("without a price", x.good(0, 2), 1);
        }
        x = new SiegeInk();
        CHECK.due("two GOODS", Check.read(x, "man a 9 0 1 0;good g 1 9;good h 9 9;"), 0);
        CHECK.due("BREAD of two", x.best(0, 0), 81);
        CHECK.due("one GOOD", Check.read(x, "man a 9 0 1 0;good g 1 9;"), 0);
        CHECK.due("BREAD of one", x.best(0, 0), 9);
        CHECK.due("none", Check.read(x, "man a 9 0 1 0;"), 0);
        CHECK.due("BREAD of none", x.best(0, 0), 0);
        CHECK.due("five", Check.read(x, "man a 9 0 1 0;" + goods(5)), 0);
        CHECK.due("BREAD of five", x.best(0, 0), 5);
        CHECK.due("three", Check.read(x, "man a 9 0 1 0;" + goods(3)), 0);
        CHECK.due("BREAD of three", x.best(0, 0), 3);
    }
}
