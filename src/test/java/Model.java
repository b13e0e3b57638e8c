import java.util.ArrayDeque;
import java.util.ArrayList;
import java.util.List;
import java.util.Set;

/** The document once more, written as simply as can be and with no thought of speed: SiegeInk is held against it. */
final class Model {
    static final Set<String> WORDS = Set.of("man", "good", "price", "dips", "buys", "wants", "faint", "grace",
        "if", "then", "else", "ink", "soot", "larder", "day", "store", "bought", "cost");
    static final List<String> VARS = List.of("ink", "soot", "larder", "day", "store", "bought", "cost");

    static final class Fault extends RuntimeException {
        private static final long serialVersionUID = 1;
        final int number;
        final int at;

        Fault(int number, int at) {
            this.number = number;
            this.at = at;
        }
    }

    static final class ByZero extends RuntimeException {
        private static final long serialVersionUID = 1;
    }

    record Token(String text, int at, boolean fine) {
        boolean isName() {
            return fine && Character.isLetter(text.charAt(0)) && !WORDS.contains(text);
        }

        boolean isInt() {
            return fine && Character.isDigit(text.charAt(0));
        }
    }

    /** One of + - * / with two sides, or an int, or a VAR. */
    record Node(char op, int number, Node left, Node right) {
        int value(int[] vars) {
            switch (op) {
                case 'n': return number;
                case 'v': return vars[number];
                case '+': return left.value(vars) + right.value(vars);
                case '-': return left.value(vars) - right.value(vars);
                case '*': return left.value(vars) * right.value(vars);
                default:
                    int a = left.value(vars);
                    int b = right.value(vars);
                    if (b == 0) {
                        throw new ByZero();
                    }
                    return a / b;
            }
        }
    }

    record Law(List<Node[]> ifs, Node otherwise) {
        int value(int most, int... vars) {
            try {
                return Math.max(0, Math.min(most, raw(vars)));
            } catch (ByZero e) {
                return 0;
            }
        }

        private int raw(int[] vars) {
            for (Node[] one : ifs) {
                int a = one[0].value(vars);
                int b = one[1].value(vars);
                if (a < b) {
                    return one[2].value(vars);
                }
            }
            return otherwise.value(vars);
        }
    }

    record Deal(int man, int good, Law law) { }

    record Page(int man, int good, int n, int drops, int soot, int day) { }

    static final class Man implements Cloneable {
        int soot;
        int water;
        int hunger;
        int larder;
        int unfed;
        boolean lives = true;
        int lines;
        Law dips;

        int drops() {
            return soot + water;
        }

        int strong() {
            return drops() == 0 ? 0 : soot * 100 / drops();
        }

        int dip(int n) {
            int s = drops() == 0 ? 0 : (int) ((long) soot * n / drops());
            soot -= s;
            water -= n - s;
            return s;
        }

        Man copy() {
            try {
                return (Man) clone();
            } catch (CloneNotSupportedException e) {
                throw new IllegalStateException(e);
            }
        }
    }

    static final class Good implements Cloneable {
        int bread;
        int store;
        int bought;
        Law price;

        Good copy() {
            try {
                return (Good) clone();
            } catch (CloneNotSupportedException e) {
                throw new IllegalStateException(e);
            }
        }
    }

    static final class Town {
        List<Man> men = new ArrayList<>();
        List<Good> goods = new ArrayList<>();
        List<Deal> buys = new ArrayList<>();
        List<Deal> wants = new ArrayList<>();
        List<Page> pages = new ArrayList<>();
        int[][] debts = new int[6][6];
        int faint = 50;
        int grace = 2;
        int day;

        Town copy() {
            Town t = new Town();
            for (Man m : men) {
                t.men.add(m.copy());
            }
            for (Good g : goods) {
                t.goods.add(g.copy());
            }
            t.buys = buys;
            t.wants = wants;
            t.pages = new ArrayList<>(pages);
            for (int i = 0; i < 6; i++) {
                t.debts[i] = debts[i].clone();
            }
            t.faint = faint;
            t.grace = grace;
            t.day = day;
            return t;
        }

        int dips(int m) {
            Man a = men.get(m);
            return a.dips == null ? 1 : a.dips.value(99, a.drops(), a.soot, a.larder, day, 0, a.lines, 0);
        }

        int price(int g) {
            Good b = goods.get(g);
            int[] all = new int[3];
            for (Man a : men) {
                if (a.lives) {
                    all[0] += a.drops();
                    all[1] += a.soot;
                    all[2] += a.larder;
                }
            }
            return b.price == null ? 1 : b.price.value(99, all[0], all[1], all[2], day, b.store, b.bought, 0);
        }

        int dealt(Deal d, int most, int cost) {
            Man a = men.get(d.man);
            Good b = goods.get(d.good);
            return d.law.value(most, a.drops(), a.soot, a.larder, day, b.store, b.bought, cost);
        }

        boolean canOrder(int m, int g, int n) {
            Man a = men.get(m);
            return a.lives && a.strong() >= faint && goods.get(g).store >= n
                && (long) n * price(g) * dips(m) <= a.drops() && pages.size() < 200;
        }

        int doOrder(int m, int g, int n) {
            Man a = men.get(m);
            Good b = goods.get(g);
            int lines = n * price(g);
            int drops = lines * dips(m);
            pages.add(new Page(m, g, n, drops, a.dip(drops), day));
            a.lines += lines;
            a.larder += n * b.bread;
            b.store -= n;
            b.bought += n;
            return drops;
        }

        int doLetter(int m, int lines) {
            Man a = men.get(m);
            int drops = lines * dips(m);
            if (!a.lives || pages.size() >= 200 || drops > a.drops()) {
                return -2;
            }
            pages.add(new Page(m, -2, lines, drops, a.dip(drops), day));
            a.lines += lines;
            return drops;
        }

        void pass(int from, int to, int n) {
            int s = men.get(from).dip(n);
            men.get(to).soot += s;
            men.get(to).water += n - s;
        }

        void doDay(int without) {
            for (Deal d : buys) {
                if (d.man != without) {
                    int n = dealt(d, 99, price(d.good));
                    while (n > 0 && !canOrder(d.man, d.good, n)) {
                        n--;
                    }
                    if (n > 0) {
                        doOrder(d.man, d.good, n);
                    }
                }
            }
            for (Man a : men) {
                if (a.lives) {
                    if (a.larder >= a.hunger) {
                        a.larder -= a.hunger;
                        a.unfed = 0;
                    } else {
                        a.larder = 0;
                        a.unfed++;
                        a.lives = a.unfed <= grace;
                    }
                }
            }
            day++;
        }

        int livesAhead(int m, int without) {
            Town t = copy();
            int alive = 0;
            for (int i = 0; i < 200; i++) {
                t.doDay(without);
                alive += t.men.get(m).lives ? 1 : 0;
            }
            return alive;
        }

        int living() {
            int n = 0;
            for (Man a : men) {
                n += a.lives ? 1 : 0;
            }
            return n;
        }

        int wanted(int g, int price) {
            int sum = 0;
            for (Deal d : wants) {
                if (d.good == g && men.get(d.man).lives) {
                    sum += dealt(d, 999, price);
                }
            }
            return sum;
        }
    }

    /** Reads a text: first its form, then its names and numbers. */
    static final class Parser {
        final List<Token> tokens = new ArrayList<>();
        final int end;
        int at;
        final int[] told = new int[4];
        Town town = new Town();
        final List<String> menNames = new ArrayList<>();
        final List<String> goodNames = new ArrayList<>();
        final List<Fault> later = new ArrayList<>();

        Parser(String text) {
            end = text.length();
            int i = 0;
            while (i < end) {
                char c = text.charAt(i);
                int j = i + 1;
                if (c == 9 || c == 10 || c == 13 || c == 32) {
                    i++;
                    continue;
                }
                boolean letter = c >= 'a' && c <= 'z';
                boolean digit = c >= '0' && c <= '9';
                while (j < end && (letter && text.charAt(j) >= 'a' && text.charAt(j) <= 'z'
                        || digit && text.charAt(j) >= '0' && text.charAt(j) <= '9')) {
                    j++;
                }
                boolean fine = letter ? j - i <= 8 : digit ? j - i <= 4 : ";=+-*/<()".indexOf(c) >= 0;
                tokens.add(new Token(text.substring(i, j), i, fine));
                i = j;
            }
        }

        Town run() {
            while (at < tokens.size()) {
                oneTell();
            }
            Fault first = null;
            for (Fault f : later) {
                if (first == null || f.at < first.at) {
                    first = f;
                }
            }
            if (first != null) {
                throw first;
            }
            return town;
        }

        int here() {
            return at < tokens.size() ? tokens.get(at).at : end;
        }

        boolean sees(String text) {
            return at < tokens.size() && tokens.get(at).fine && tokens.get(at).text.equals(text);
        }

        Fault syntax() {
            return new Fault(1, here());
        }

        /** Takes one that goes on; full tells ROOM of another kind than that of TOKENS. */
        Token take(boolean full) {
            Token t = tokens.get(at);
            if (full || at >= 400) {
                throw new Fault(2, t.at);
            }
            at++;
            return t;
        }

        void sign(String text) {
            if (!sees(text)) {
                throw syntax();
            }
            take(false);
        }

        Token name() {
            if (at >= tokens.size() || !tokens.get(at).isName()) {
                throw syntax();
            }
            return take(false);
        }

        int number(int low, int high) {
            if (at >= tokens.size() || !tokens.get(at).isInt()) {
                throw syntax();
            }
            Token t = take(false);
            int n = Integer.parseInt(t.text);
            if (n < low || n > high) {
                later.add(new Fault(5, t.at));
            }
            return n;
        }

        int known(List<String> names, Token t) {
            int i = names.indexOf(t.text);
            if (i < 0) {
                later.add(new Fault(4, t.at));
            }
            return i;
        }

        void newName(List<String> names, Token t) {
            if (menNames.contains(t.text) || goodNames.contains(t.text)) {
                later.add(new Fault(3, t.at));
            }
            names.add(t.text);
        }

        void oneTell() {
            if (sees("man")) {
                take(++told[0] > 6);
                newName(menNames, name());
                Man m = new Man();
                m.soot = number(0, 9999);
                m.water = number(0, 9999);
                m.hunger = number(1, 9);
                m.larder = number(0, 999);
                town.men.add(m);
                sign(";");
            } else if (sees("good")) {
                take(++told[1] > 5);
                newName(goodNames, name());
                Good g = new Good();
                g.bread = number(1, 9);
                g.store = number(0, 999);
                town.goods.add(g);
                sign(";");
            } else if (sees("price")) {
                take(false);
                int g = known(goodNames, name());
                Law law = law();
                if (g >= 0) {
                    town.goods.get(g).price = law;
                }
            } else if (sees("dips")) {
                take(false);
                int m = known(menNames, name());
                Law law = law();
                if (m >= 0) {
                    town.men.get(m).dips = law;
                }
            } else if (sees("buys") || sees("wants")) {
                boolean buys = sees("buys");
                take(++told[buys ? 2 : 3] > 12);
                int m = known(menNames, name());
                int g = known(goodNames, name());
                (buys ? town.buys : town.wants).add(new Deal(m, g, law()));
            } else if (sees("faint")) {
                take(false);
                town.faint = number(0, 100);
                sign(";");
            } else if (sees("grace")) {
                take(false);
                town.grace = number(0, 9);
                sign(";");
            } else {
                throw syntax();
            }
        }

        Law law() {
            sign("=");
            List<Node[]> ifs = new ArrayList<>();
            while (sees("if")) {
                take(ifs.size() >= 4);
                Node a = sum(0);
                sign("<");
                Node b = sum(0);
                sign("then");
                Node c = sum(0);
                sign("else");
                ifs.add(new Node[] {a, b, c});
            }
            Node last = sum(0);
            sign(";");
            return new Law(ifs, last);
        }

        Node sum(int depth) {
            Node n = part(depth);
            while (sees("+") || sees("-")) {
                char op = take(false).text.charAt(0);
                n = new Node(op, 0, n, part(depth));
            }
            return n;
        }

        Node part(int depth) {
            Node n = unit(depth);
            while (sees("*") || sees("/")) {
                char op = take(false).text.charAt(0);
                n = new Node(op, 0, n, unit(depth));
            }
            return n;
        }

        Node unit(int depth) {
            if (at < tokens.size() && tokens.get(at).isInt()) {
                return new Node('n', Integer.parseInt(take(false).text), null, null);
            }
            if (at < tokens.size() && VARS.contains(tokens.get(at).text)) {
                return new Node('v', VARS.indexOf(take(false).text), null, null);
            }
            if (sees("(")) {
                take(depth >= 6);
                Node n = sum(depth + 1);
                sign(")");
                return n;
            }
            throw syntax();
        }
    }

    private final StringBuilder tape = new StringBuilder();
    private int place = -1;
    private Town town = new Town();
    private final ArrayDeque<Town> past = new ArrayDeque<>();
    private final ArrayDeque<List<int[]>> pastTold = new ArrayDeque<>();
    private final Town[] slots = new Town[3];
    private List<int[]> told = new ArrayList<>();

    private boolean isMan(int m) {
        return m >= 0 && m < town.men.size();
    }

    private boolean isGood(int g) {
        return g >= 0 && g < town.goods.size();
    }

    private boolean two(int a, int b) {
        return isMan(a) && isMan(b) && a != b;
    }

    private boolean bothLive(int a, int b) {
        return town.men.get(a).lives && town.men.get(b).lives;
    }

    private void push() {
        past.addLast(town.copy());
        pastTold.addLast(new ArrayList<>(told));
        if (past.size() > 25) {
            past.removeFirst();
            pastTold.removeFirst();
        }
    }

    int feed(int... words) {
        if (tape.length() + 20 > 2000) {
            return -1;
        }
        for (int w : words) {
            for (int s = 24; s >= 0; s -= 8) {
                tape.append((char) (w >> s & 255));
            }
        }
        return tape.length();
    }

    int back(int n) {
        if (n < 0 || n > tape.length()) {
            return -1;
        }
        tape.setLength(tape.length() - n);
        return tape.length();
    }

    int read() {
        String text = tape.toString();
        tape.setLength(0);
        place = -1;
        try {
            town = new Parser(text).run();
        } catch (Fault f) {
            place = f.at;
            return f.number;
        }
        past.clear();
        pastTold.clear();
        told.clear();
        for (int i = 0; i < 3; i++) {
            slots[i] = null;
        }
        return 0;
    }

    int place() {
        return place;
    }

    int man(int m, int what) {
        if (!isMan(m) || what < 0 || what > 7) {
            return -1;
        }
        Man a = town.men.get(m);
        return new int[] {a.drops(), a.soot, a.strong(), a.larder, a.unfed, a.lives ? 1 : 0, a.lines, town.dips(m)}[what];
    }

    int good(int g, int what) {
        if (!isGood(g) || what < 0 || what > 3) {
            return -1;
        }
        Good b = town.goods.get(g);
        return new int[] {b.store, b.bread, town.price(g), b.bought}[what];
    }

    int debt(int m, int to) {
        return two(m, to) ? town.debts[m][to] : -1;
    }

    int order(int m, int g, int n) {
        if (!isMan(m) || !isGood(g) || n < 1) {
            return -1;
        }
        if (!town.canOrder(m, g, n)) {
            return -2;
        }
        push();
        return town.doOrder(m, g, n);
    }

    int letter(int m, int lines) {
        if (!isMan(m) || lines < 1 || lines > 999) {
            return -1;
        }
        if (town.copy().doLetter(m, lines) < 0) {
            return -2;
        }
        push();
        return town.doLetter(m, lines);
    }

    boolean lend(int from, int to, int n) {
        if (!two(from, to) || !bothLive(from, to) || n < 1 || n > town.men.get(from).drops()) {
            return false;
        }
        push();
        town.pass(from, to, n);
        town.debts[to][from] += n;
        return true;
    }

    int repay(int m, int to, int n) {
        if (!two(m, to) || !bothLive(m, to)) {
            return -1;
        }
        int paid = Math.min(n, Math.min(town.men.get(m).drops(), town.debts[m][to]));
        if (paid < 1) {
            return -1;
        }
        push();
        town.pass(m, to, paid);
        town.debts[m][to] -= paid;
        return paid;
    }

    int blot(int m, int to) {
        if (!two(m, to) || town.debts[m][to] == 0) {
            return -1;
        }
        push();
        int was = town.debts[m][to];
        town.debts[m][to] = 0;
        return was;
    }

    int water(int m, int n) {
        if (!isMan(m) || n < 1 || (long) n + town.men.get(m).water > 9999) {
            return -1;
        }
        push();
        town.men.get(m).water += n;
        return town.men.get(m).strong();
    }

    int days(int n) {
        if (n < 0 || n > 100) {
            return -1;
        }
        if (n > 0) {
            push();
        }
        for (int i = 0; i < n; i++) {
            town.doDay(-1);
        }
        return town.day;
    }

    boolean undo() {
        if (past.isEmpty()) {
            return false;
        }
        town = past.removeLast();
        told = pastTold.removeLast();
        return true;
    }

    int page(int i, int what) {
        if (i < 0 || i >= town.pages.size() || what < 0 || what > 5) {
            return -1;
        }
        Page p = town.pages.get(i);
        return new int[] {p.man, p.good, p.n, p.drops, p.soot, p.day}[what];
    }

    int over() {
        Town t = town.copy();
        for (int i = 0; i <= 200; i++) {
            if (t.living() == 0) {
                return i;
            }
            t.doDay(-1);
        }
        return -2;
    }

    int last() {
        int who = -2;
        for (int m = 0; m < town.men.size(); m++) {
            if (who < 0 || town.livesAhead(m, -1) > town.livesAhead(who, -1)) {
                who = m;
            }
        }
        return who;
    }

    int lives(int m) {
        return isMan(m) ? town.livesAhead(m, -1) : -1;
    }

    int aid(int from, int to, int n) {
        if (!two(from, to) || n < 1 || n > 200) {
            return -1;
        }
        for (int d = 0; d <= 2000 && d <= town.men.get(from).drops(); d++) {
            if (d > 0 && !bothLive(from, to)) {
                return -2;
            }
            Town t = town.copy();
            if (d > 0) {
                t.pass(from, to, d);
            }
            for (int i = 0; i < n; i++) {
                t.doDay(-1);
            }
            if (t.men.get(to).lives) {
                return d;
            }
        }
        return -2;
    }

    int rival(int m, int what) {
        if (!isMan(m) || what < 0 || what > 1) {
            return -1;
        }
        int who = -2;
        int most = -2;
        for (int o = 0; o < town.men.size(); o++) {
            if (o != m && town.livesAhead(m, o) > most) {
                most = town.livesAhead(m, o);
                who = o;
            }
        }
        return what == 0 ? who : most;
    }

    int led(int m, int g) {
        if (m != -1 && !isMan(m) || g != -1 && g != -2 && !isGood(g)) {
            return -1;
        }
        int sum = 0;
        for (Page p : town.pages) {
            sum += (m == -1 || m == p.man) && (g == -1 || g == p.good) ? p.drops : 0;
        }
        return sum;
    }

    int unwritten(int m, int lines, int whom) {
        Town t = town.copy();
        if (!isMan(m) || !isMan(whom) || lines < 1 || lines > 999 || t.doLetter(m, lines) < 0) {
            return -1000000;
        }
        return town.livesAhead(whom, -1) - t.livesAhead(whom, -1);
    }

    /** BREAD, DROPS, then how many of each GOOD; by trying all, so only for small stores. */
    private int[] bestOfAll(int m) {
        int goods = town.goods.size();
        int[] best = new int[2 + goods];
        Man a = town.men.get(m);
        if (a.lives && a.strong() >= town.faint) {
            int[] each = new int[goods];
            for (int g = 0; g < goods; g++) {
                each[g] = town.price(g) * town.dips(m);
            }
            tryAll(0, Math.min(2000, a.drops()), each, new int[2 + goods], best);
        }
        return best;
    }

    private void tryAll(int g, int left, int[] each, int[] now, int[] best) {
        if (g == town.goods.size()) {
            if (now[0] > best[0] || now[0] == best[0] && now[1] < best[1]) {
                System.arraycopy(now, 0, best, 0, best.length);
            }
            return;
        }
        Good b = town.goods.get(g);
        for (int n = 0; n <= Math.min(99, b.store) && n * each[g] <= left; n++) {
            now[0] += n * b.bread;
            now[1] += n * each[g];
            now[2 + g] = n;
            tryAll(g + 1, left - n * each[g], each, now, best);
            now[0] -= n * b.bread;
            now[1] -= n * each[g];
            now[2 + g] = 0;
        }
    }

    /** How many baskets there are to try. */
    long baskets() {
        long n = 1;
        for (Good g : town.goods) {
            n *= 1 + Math.min(99, g.store);
        }
        return n;
    }

    int best(int m, int what) {
        if (!isMan(m) || what < 0 || what > 2) {
            return -1;
        }
        int[] best = bestOfAll(m);
        Man a = town.men.get(m);
        return what < 2 ? best[what] : (best[0] + a.larder) / a.hunger;
    }

    int bestOf(int m, int g) {
        return !isMan(m) || !isGood(g) ? -1 : bestOfAll(m)[2 + g];
    }

    int settles(int g, int price, int what) {
        if (!isGood(g) || price < 0 || price > 99 || what < 0 || what > 2) {
            return -1;
        }
        List<Integer> seen = new ArrayList<>();
        int p = price;
        while (!seen.contains(p)) {
            seen.add(p);
            int w = town.wanted(g, p);
            int s = town.goods.get(g).store;
            int next = w > s && p < 99 ? p + 1 : w < s && p > 0 ? p - 1 : p;
            if (next == p) {
                return what == 0 ? seen.size() - 1 : what == 1 ? p : 0;
            }
            p = next;
        }
        return what == 2 ? seen.size() - seen.indexOf(p) : -2;
    }

    int tell(int set, int strong) {
        if (told.size() >= 20 || set < 1 || set >= 1 << town.men.size() || strong < 0 || strong > 100) {
            return -1;
        }
        push();
        told.add(new int[] {set, strong});
        return told.size() - 1;
    }

    int forget() {
        push();
        int n = told.size();
        told.clear();
        return n;
    }

    private boolean allSo(int k, int who, int more) {
        for (int[] test : told.subList(0, k)) {
            int soot = 0;
            int drops = 0;
            for (int m = 0; m < town.men.size(); m++) {
                if ((test[0] & 1 << m) != 0) {
                    soot += town.men.get(m).soot;
                    drops += town.men.get(m).drops() + (m == who ? more : 0);
                }
            }
            if ((drops == 0 ? 0 : 100 * soot / drops) != test[1]) {
                return false;
            }
        }
        return true;
    }

    int watered(int most, int k, int i) {
        if (most < 1 || most > 500 || k < 0 || k > told.size() || i < -1) {
            return -1;
        }
        List<Integer> ways = new ArrayList<>();
        if (!town.men.isEmpty() && allSo(k, 0, 0)) {
            ways.add(0);
        }
        for (int m = 0; m < town.men.size(); m++) {
            for (int w = 1; w <= most; w++) {
                if (allSo(k, m, w)) {
                    ways.add(1000 * m + w);
                }
            }
        }
        return i == -1 ? ways.size() : i < ways.size() ? ways.get(i) : -1;
    }

    boolean hold(int slot) {
        if (slot < 0 || slot > 2) {
            return false;
        }
        slots[slot] = town.copy();
        return true;
    }

    boolean restore(int slot) {
        if (slot < 0 || slot > 2 || slots[slot] == null) {
            return false;
        }
        town = slots[slot].copy();
        past.clear();
        pastTold.clear();
        return true;
    }

    int count(int what) {
        int drops = 0;
        for (Man a : town.men) {
            drops += a.drops();
        }
        int held = 0;
        for (Town t : slots) {
            held += t == null ? 0 : 1;
        }
        int[] all = {town.men.size(), town.goods.size(), town.buys.size(), town.wants.size(), town.faint, town.grace,
            town.day, town.living(), town.pages.size(), led(-1, -1), drops, tape.length(), past.size(), told.size(), held};
        return what >= 0 && what < all.length ? all[what] : -1;
    }
}
