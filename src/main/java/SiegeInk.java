import java.util.Arrays;

/** A town under siege that pays in ink. What each call promises stands in DOC.md, by its number. */
public final class SiegeInk {
    public static final int NONE = -1;

    private static final int CANNOT = -2;
    private static final int TO_NOBODY = -2;
    private static final int NOT_WRITABLE = -1000000;

    private static final int MOST_MEN = 6;
    private static final int MOST_GOODS = 5;
    private static final int MOST_DEALS = 12;
    private static final int MOST_PAGES = 200;
    private static final int PAGE_CELLS = 6;
    private static final int MOST_LINES = 999;
    private static final int MOST_WATER = 9999;
    private static final int MOST_DAYS = 100;
    private static final int DAYS_AHEAD = 200;
    private static final int MOST_SPENT = 2000;
    private static final int MOST_PRICE = 99;
    private static final int MOST_DIPS = 99;
    private static final int MOST_BOUGHT = 99;
    private static final int MOST_WANTED = 999;
    private static final int MOST_ROUNDS = 300;
    private static final int MOST_POURED = 500;
    private static final int MOST_TOLD = 20;
    private static final int SLOTS = 3;

    private static final int TAPE_BYTES = 2000;
    private static final int FED_BYTES = 20;
    private static final int MOST_TOKENS = 400;
    private static final int MOST_LETTERS = 8;
    private static final int MOST_DIGITS = 4;
    private static final int MOST_IFS = 4;
    private static final int MOST_DEPTH = 6;

    private static final int SYNTAX = 1;
    private static final int ROOM = 2;
    private static final int TWICE = 3;
    private static final int UNKNOWN = 4;
    private static final int WRONG = 5;

    // Kinds of TOKENS. Words and signs are numbered as they stand in WORDS and SIGNS.
    private static final int BAD = 0;
    private static final int NAME = 1;
    private static final int NUMBER = 2;
    private static final int MAN = 3;
    private static final int GOOD = 4;
    private static final int PRICE = 5;
    private static final int DIPS = 6;
    private static final int BUYS = 7;
    private static final int WANTS = 8;
    private static final int FAINT = 9;
    private static final int GRACE = 10;
    private static final int IF = 11;
    private static final int THEN = 12;
    private static final int ELSE = 13;
    private static final int INK = 14;
    private static final int COST = 20;
    private static final int SEMICOLON = 21;
    private static final int EQUALS = 22;
    private static final int PLUS = 23;
    private static final int MINUS = 24;
    private static final int TIMES = 25;
    private static final int BY = 26;
    private static final int LESS = 27;
    private static final int OPEN = 28;
    private static final int CLOSE = 29;
    private static final String WORDS =
        "man good price dips buys wants faint grace if then else ink soot larder day store bought cost";
    private static final String SIGNS = ";=+-*/<()";

    private final Tape tape = new Tape();
    private final Clerk clerk = new Clerk();
    private final Past past = new Past();
    private final Tests tests = new Tests();
    private final Basket basket = new Basket();
    private final int[] heldCells = new int[SLOTS * Town.HELD];
    private final int[] heldPages = new int[SLOTS * MOST_PAGES * PAGE_CELLS];
    private final boolean[] held = new boolean[SLOTS];
    private final Town town;
    /** Where it is tried what would be, so that nothing happens in the town itself. */
    private final Town trial;
    private Book book = new Book();
    /** The next text is read into this one, so that a FAULT leaves the text ahead whole. */
    private Book spare = new Book();

    public SiegeInk() {
        town = new Town(book);
        trial = new Town(book);
    }

    // ---- the text

    public int feed(int a, int b, int c, int d, int e) {
        if (tape.length + FED_BYTES > TAPE_BYTES) {
            return NONE;
        }
        tape.addFour(a);
        tape.addFour(b);
        tape.addFour(c);
        tape.addFour(d);
        tape.addFour(e);
        return tape.length;
    }

    public int back(int n) {
        if (n < 0 || n > tape.length) {
            return NONE;
        }
        tape.length -= n;
        return tape.length;
    }

    public int read() {
        int fault = clerk.takeText(tape, spare);
        tape.length = 0;
        if (fault == 0) {
            Book told = spare;
            spare = book;
            book = told;
            town.startFrom(told);
            trial.startFrom(told);
            past.clear();
            for (int i = 0; i < SLOTS; i++) {
                held[i] = false;
            }
        }
        return fault;
    }

    public int place() {
        return clerk.faultAt;
    }

    // ---- what is

    public int man(int man, int what) {
        if (!isMan(man)) {
            return NONE;
        }
        switch (what) {
            case 0: return town.dropsOf(man);
            case 1: return town.cells[Town.SOOT + man];
            case 2: return town.strengthOf(man);
            case 3: return town.cells[Town.LARDER + man];
            case 4: return town.cells[Town.UNFED + man];
            case 5: return town.cells[Town.ALIVE + man];
            case 6: return town.cells[Town.LINES + man];
            case 7: return town.dipsNow(man);
            default: return NONE;
        }
    }

    public int good(int good, int what) {
        if (!isGood(good)) {
            return NONE;
        }
        switch (what) {
            case 0: return town.cells[Town.STORE + good];
            case 1: return book.bread[good];
            case 2: return town.priceNow(good);
            case 3: return town.cells[Town.BOUGHT + good];
            default: return NONE;
        }
    }

    public int debt(int man, int to) {
        return areTwo(man, to) ? town.cells[Town.debtCell(man, to)] : NONE;
    }

    public int page(int i, int what) {
        if (i < 0 || i >= town.cells[Town.PAGES] || what < 0 || what >= PAGE_CELLS) {
            return NONE;
        }
        return town.pages[i * PAGE_CELLS + what];
    }

    public int led(int man, int good) {
        boolean anyMan = man == NONE;
        boolean anyGood = good == NONE;
        if (!anyMan && !isMan(man) || !anyGood && good != TO_NOBODY && !isGood(good)) {
            return NONE;
        }
        int drops = 0;
        for (int i = 0; i < town.cells[Town.PAGES]; i++) {
            int at = i * PAGE_CELLS;
            if ((anyMan || town.pages[at] == man) && (anyGood || town.pages[at + 1] == good)) {
                drops += town.pages[at + 3];
            }
        }
        return drops;
    }

    public int count(int what) {
        switch (what) {
            case 0: return book.men;
            case 1: return book.goods;
            case 2: return book.buys.number;
            case 3: return book.wants.number;
            case 4: return book.faint;
            case 5: return book.grace;
            case 6: return town.cells[Town.DAY];
            case 7: return town.living();
            case 8: return town.cells[Town.PAGES];
            case 9: return led(NONE, NONE);
            case 10: return town.allDrops();
            case 11: return tape.length;
            case 12: return past.number;
            case 13: return town.cells[Town.TOLD];
            case 14: return slotsHeld();
            default: return NONE;
        }
    }

    // ---- what is done

    public int order(int man, int good, int n) {
        if (!isMan(man) || !isGood(good) || n < 1) {
            return NONE;
        }
        past.note(town);
        int drops = town.buy(man, good, n, n, town.priceNow(good));
        past.keepIf(drops != CANNOT);
        return drops;
    }

    public int letter(int man, int lines) {
        if (!isMan(man) || lines < 1 || lines > MOST_LINES) {
            return NONE;
        }
        past.note(town);
        int drops = town.writeLetter(man, lines);
        past.keepIf(drops != CANNOT);
        return drops;
    }

    public boolean lend(int from, int to, int n) {
        if (!areTwo(from, to) || !town.bothLive(from, to) || n < 1 || n > town.dropsOf(from)) {
            return false;
        }
        past.note(town);
        town.pass(from, to, n);
        town.cells[Town.debtCell(to, from)] += n;
        past.keepIf(true);
        return true;
    }

    public int repay(int man, int to, int n) {
        if (!areTwo(man, to) || !town.bothLive(man, to)) {
            return NONE;
        }
        int owed = Town.debtCell(man, to);
        int paid = Math.min(n, Math.min(town.dropsOf(man), town.cells[owed]));
        if (paid < 1) {
            return NONE;
        }
        past.note(town);
        town.pass(man, to, paid);
        town.cells[owed] -= paid;
        past.keepIf(true);
        return paid;
    }

    public int blot(int man, int to) {
        if (!areTwo(man, to)) {
            return NONE;
        }
        int owed = Town.debtCell(man, to);
        int was = town.cells[owed];
        if (was == 0) {
            return NONE;
        }
        past.note(town);
        town.cells[owed] = 0;
        past.keepIf(true);
        return was;
    }

    public int water(int man, int n) {
        if (!isMan(man) || n < 1 || n > MOST_WATER - town.cells[Town.WATER + man]) {
            return NONE;
        }
        past.note(town);
        town.cells[Town.WATER + man] += n;
        past.keepIf(true);
        return town.strengthOf(man);
    }

    public int days(int n) {
        if (n < 0 || n > MOST_DAYS) {
            return NONE;
        }
        past.note(town);
        for (int i = 0; i < n; i++) {
            town.passDay(NONE);
        }
        past.keepIf(n > 0);
        return town.cells[Town.DAY];
    }

    public boolean undo() {
        return past.takeBack(town);
    }

    // ---- what would be

    public int over() {
        trial.becomeLike(town);
        for (int days = 0; days <= DAYS_AHEAD; days++) {
            if (trial.living() == 0) {
                return days;
            }
            trial.passDay(NONE);
        }
        return CANNOT;
    }

    public int last() {
        int longest = CANNOT;
        int most = -1;
        for (int man = 0; man < book.men; man++) {
            trial.becomeLike(town);
            int days = trial.daysAlive(man, DAYS_AHEAD, NONE);
            if (days > most) {
                most = days;
                longest = man;
            }
        }
        return longest;
    }

    public int lives(int man) {
        if (!isMan(man)) {
            return NONE;
        }
        trial.becomeLike(town);
        return trial.daysAlive(man, DAYS_AHEAD, NONE);
    }

    public int aid(int from, int to, int n) {
        if (!areTwo(from, to) || n < 1 || n > DAYS_AHEAD) {
            return NONE;
        }
        // Lending needs both alive, and ink feeds only one who BUYS; to lend nothing needs neither.
        boolean mayHelp = town.bothLive(from, to) && book.buys.areAnyOf(to);
        int most = mayHelp ? Math.min(town.dropsOf(from), MOST_SPENT) : 0;
        // More ink may make a LAW buy less, so that each amount has to be tried.
        for (int drops = 0; drops <= most; drops++) {
            trial.becomeLike(town);
            trial.pass(from, to, drops);
            if (trial.daysAlive(to, n, NONE) == n) {
                return drops;
            }
        }
        return CANNOT;
    }

    public int rival(int man, int what) {
        if (!isMan(man) || what < 0 || what > 1) {
            return NONE;
        }
        int worst = CANNOT;
        int most = CANNOT;
        for (int other = 0; other < book.men; other++) {
            if (other != man) {
                trial.becomeLike(town);
                int days = trial.daysAlive(man, DAYS_AHEAD, other);
                if (days > most) {
                    most = days;
                    worst = other;
                }
            }
        }
        return what == 0 ? worst : most;
    }

    public int unwritten(int man, int lines, int whom) {
        if (!isMan(man) || !isMan(whom) || lines < 1 || lines > MOST_LINES) {
            return NOT_WRITABLE;
        }
        trial.becomeLike(town);
        if (trial.writeLetter(man, lines) == CANNOT) {
            return NOT_WRITABLE;
        }
        int written = trial.daysAlive(whom, DAYS_AHEAD, NONE);
        trial.becomeLike(town);
        return trial.daysAlive(whom, DAYS_AHEAD, NONE) - written;
    }

    public int best(int man, int what) {
        if (!isMan(man) || what < 0 || what > 2) {
            return NONE;
        }
        basket.choose(town, man);
        switch (what) {
            case 0: return basket.bread;
            case 1: return basket.drops;
            default: return town.daysOf(man, basket.bread);
        }
    }

    public int bestOf(int man, int good) {
        if (!isMan(man) || !isGood(good)) {
            return NONE;
        }
        basket.choose(town, man);
        return basket.picks[good];
    }

    public int settles(int good, int price, int what) {
        if (!isGood(good) || price < 0 || price > MOST_PRICE || what < 0 || what > 2) {
            return NONE;
        }
        int now = price;
        for (int rounds = 0; rounds <= MOST_ROUNDS; rounds++) {
            int next = town.nextPrice(good, now);
            if (next == now) {
                return what == 0 ? rounds : what == 1 ? now : 0;
            }
            now = next;
        }
        return what == 2 ? roundFrom(good, now) : CANNOT;
    }

    // ---- watered ink

    public int tell(int set, int strong) {
        int number = town.cells[Town.TOLD];
        if (set < 1 || set >= 1 << book.men || strong < 0 || strong > 100 || number >= MOST_TOLD) {
            return NONE;
        }
        past.note(town);
        town.cells[Town.SETS + number] = set;
        town.cells[Town.STRENGTHS + number] = strong;
        town.cells[Town.TOLD]++;
        past.keepIf(true);
        return number;
    }

    public int forget() {
        past.note(town);
        int were = town.cells[Town.TOLD];
        town.cells[Town.TOLD] = 0;
        past.keepIf(true);
        return were;
    }

    public int watered(int most, int k, int i) {
        if (most < 1 || most > MOST_POURED || k < 0 || k > town.cells[Town.TOLD] || i < NONE) {
            return NONE;
        }
        return tests.waysAfter(town, most, k, i);
    }

    // ---- slots

    public boolean hold(int slot) {
        if (slot < 0 || slot >= SLOTS) {
            return false;
        }
        System.arraycopy(town.cells, 0, heldCells, slot * Town.HELD, Town.HELD);
        System.arraycopy(town.pages, 0, heldPages, slot * town.pages.length, town.pages.length);
        held[slot] = true;
        return true;
    }

    public boolean restore(int slot) {
        if (slot < 0 || slot >= SLOTS || !held[slot]) {
            return false;
        }
        System.arraycopy(heldCells, slot * Town.HELD, town.cells, 0, Town.HELD);
        System.arraycopy(heldPages, slot * town.pages.length, town.pages, 0, town.pages.length);
        past.clear();
        return true;
    }

    // ---- helpers of the face

    private boolean isMan(int man) {
        return man >= 0 && man < book.men;
    }

    private boolean isGood(int good) {
        return good >= 0 && good < book.goods;
    }

    private boolean areTwo(int man, int other) {
        return isMan(man) && isMan(other) && man != other;
    }

    private int slotsHeld() {
        int number = 0;
        for (boolean one : held) {
            if (one) {
                number++;
            }
        }
        return number;
    }

    /** How many rounds it takes from a price, in which it goes for ever, back to that price. */
    private int roundFrom(int good, int price) {
        int now = town.nextPrice(good, price);
        int rounds = 1;
        while (now != price && rounds < MOST_ROUNDS) {
            now = town.nextPrice(good, now);
            rounds++;
        }
        return rounds;
    }

    /** The bytes that have been fed and not yet read. */
    private static final class Tape {
        private final byte[] bytes = new byte[TAPE_BYTES];
        private int length;

        void addFour(int word) {
            for (int shift = 24; shift >= 0 && length < bytes.length; shift -= 8) {
                bytes[length] = (byte) (word >> shift);
                length++;
            }
        }
    }

    /** The TOKENS of a tape; one more is kept than a text may have, as ROOM is told by its place. */
    private static final class Tokens {
        private static final int BLANK = -1;

        private final int[] kind = new int[MOST_TOKENS + 1];
        private final int[] start = new int[MOST_TOKENS + 1];
        private final int[] size = new int[MOST_TOKENS + 1];
        /** An INT's number, a NAME's letters as digits. */
        private final long[] value = new long[MOST_TOKENS + 1];
        private final long[] words = new long[COST - MAN + 1];
        private int number;

        Tokens() {
            int word = 0;
            for (int i = 0; i < WORDS.length(); i++) {
                char c = WORDS.charAt(i);
                if (c == ' ') {
                    word++;
                } else if (word < words.length) {
                    words[word] = withLetter(words[word], c);
                }
            }
        }

        private static long withLetter(long letters, int letter) {
            return letters * 27 + (letter - 'a' + 1);
        }

        private static int kindOfByte(int b) {
            if (b >= 'a' && b <= 'z') {
                return NAME;
            }
            if (b >= '0' && b <= '9') {
                return NUMBER;
            }
            if (b == 9 || b == 10 || b == 13 || b == 32) {
                return BLANK;
            }
            int sign = SIGNS.indexOf((char) b);
            return sign < 0 ? BAD : SEMICOLON + sign;
        }

        void scan(Tape tape) {
            number = 0;
            int ahead = BLANK;
            for (int at = 0; at < tape.length; at++) {
                int b = tape.bytes[at] & 255;
                int now = kindOfByte(b);
                boolean runs = now == ahead && (now == NAME || now == NUMBER);
                if (now != BLANK && !runs) {
                    if (number >= kind.length) {
                        break;
                    }
                    kind[number] = now;
                    start[number] = at;
                    size[number] = 0;
                    value[number] = 0;
                    number++;
                }
                if (now == NAME || now == NUMBER) {
                    lengthen(b);
                }
                ahead = now;
            }
            nameKinds();
        }

        private void lengthen(int b) {
            int at = number - 1;
            if (at >= 0) {
                size[at]++;
                value[at] = kind[at] == NAME ? withLetter(value[at], b) : value[at] * 10 + (b - '0');
            }
        }

        /** Only a whole run of letters or digits tells whether it is a word, or too long. */
        private void nameKinds() {
            for (int i = 0; i < number; i++) {
                if (kind[i] == NAME) {
                    kind[i] = size[i] > MOST_LETTERS ? BAD : wordOrName(value[i]);
                } else if (kind[i] == NUMBER && size[i] > MOST_DIGITS) {
                    kind[i] = BAD;
                }
            }
        }

        private int wordOrName(long letters) {
            for (int i = 0; i < words.length; i++) {
                if (words[i] == letters) {
                    return MAN + i;
                }
            }
            return NAME;
        }
    }

    /** Follows a text TOKEN by TOKEN, and says with which no text goes on, and which has no ROOM. */
    private static final class Grammar {
        private static final int IN_TEXT = 0;
        private static final int IN_FORM = 1;
        private static final int AT_UNIT = 2;
        private static final int BEHIND_UNIT = 3;
        /** What ends the E of each part of a LAW: the last one, the two of an if, its then. */
        private static final int[] PART_ENDS = {SEMICOLON, LESS, THEN, ELSE};

        private final int[] tells = new int[GRACE + 1];
        private int mode;
        private String form = "";
        private int step;
        private int part;
        private int ifs;
        private int depth;
        /** Whether an if may stand here. */
        private boolean fresh;
        private boolean full;

        void begin() {
            Arrays.fill(tells, 0);
            mode = IN_TEXT;
            full = false;
        }

        boolean atEnd() {
            return mode == IN_TEXT;
        }

        boolean goesOn(int kind) {
            switch (mode) {
                case IN_TEXT: return beginTell(kind);
                case IN_FORM: return followForm(kind);
                case AT_UNIT: return takeUnit(kind);
                default: return takeBehindUnit(kind);
            }
        }

        private boolean beginTell(int kind) {
            if (kind < MAN || kind > GRACE) {
                return false;
            }
            tells[kind]++;
            full = tells[kind] > mostOf(kind);
            form = formOf(kind);
            step = 0;
            mode = IN_FORM;
            return true;
        }

        private static int mostOf(int tell) {
            switch (tell) {
                case MAN: return MOST_MEN;
                case GOOD: return MOST_GOODS;
                case BUYS:
                case WANTS: return MOST_DEALS;
                default: return MOST_TOKENS;
            }
        }

        /** What comes behind the word: n a NAME, i an INT, the signs themselves; behind = a LAW. */
        private static String formOf(int tell) {
            switch (tell) {
                case MAN: return "niiii;";
                case GOOD: return "nii;";
                case PRICE:
                case DIPS: return "n=";
                case BUYS:
                case WANTS: return "nn=";
                default: return "i;";
            }
        }

        private boolean followForm(int kind) {
            char due = step < form.length() ? form.charAt(step) : ';';
            step++;
            if (due == 'n') {
                return kind == NAME;
            }
            if (due == 'i') {
                return kind == NUMBER;
            }
            if (due == '=') {
                beginLaw();
                return kind == EQUALS;
            }
            mode = IN_TEXT;
            return kind == SEMICOLON;
        }

        private void beginLaw() {
            mode = AT_UNIT;
            part = 0;
            ifs = 0;
            depth = 0;
            fresh = true;
        }

        private boolean takeUnit(int kind) {
            boolean mayBeIf = fresh;
            fresh = false;
            if (kind == NUMBER || kind >= INK && kind <= COST) {
                mode = BEHIND_UNIT;
                return true;
            }
            if (kind == OPEN) {
                depth++;
                full = depth > MOST_DEPTH;
                return true;
            }
            if (kind == IF && mayBeIf) {
                ifs++;
                full = ifs > MOST_IFS;
                part = 1;
                return true;
            }
            return false;
        }

        private boolean takeBehindUnit(int kind) {
            if (kind >= PLUS && kind <= BY) {
                mode = AT_UNIT;
                return true;
            }
            if (depth > 0) {
                depth--;
                return kind == CLOSE;
            }
            if (part < 0 || part >= PART_ENDS.length || kind != PART_ENDS[part]) {
                return false;
            }
            if (part == 0) {
                mode = IN_TEXT;
                return true;
            }
            part = (part + 1) % PART_ENDS.length;
            mode = AT_UNIT;
            fresh = part == 0;
            return true;
        }
    }

    /** Reads a tape: looks for FAULTS, and writes into a Book what the text tells. */
    private static final class Clerk {
        private final Tokens tokens = new Tokens();
        private final Grammar grammar = new Grammar();
        private final long[] manNames = new long[MOST_MEN];
        private final long[] goodNames = new long[MOST_GOODS];
        /** Operators and ( whose right side is not yet through. */
        private final int[] pending = new int[MOST_TOKENS];
        private int pendingNumber;
        private int fault;
        private int faultAt = NONE;
        private int tell;
        private int step;
        private int man;
        private int good;
        private boolean inLaw;
        private int lawStart;
        private int openIf;

        int takeText(Tape tape, Book into) {
            fault = 0;
            faultAt = NONE;
            tokens.scan(tape);
            checkForm(tape.length);
            if (fault == 0) {
                writeDown(into);
            }
            return fault;
        }

        private void checkForm(int end) {
            grammar.begin();
            for (int i = 0; i < tokens.number && fault == 0; i++) {
                if (!grammar.goesOn(tokens.kind[i])) {
                    blame(SYNTAX, tokens.start[i]);
                } else if (grammar.full || i >= MOST_TOKENS) {
                    blame(ROOM, tokens.start[i]);
                }
            }
            if (fault == 0 && !grammar.atEnd()) {
                blame(SYNTAX, end);
            }
        }

        private void blame(int what, int at) {
            fault = what;
            faultAt = at;
        }

        private void writeDown(Book into) {
            into.clear();
            inLaw = false;
            pendingNumber = 0;
            for (int i = 0; i < tokens.number && fault == 0; i++) {
                int wrong = take(into, tokens.kind[i], tokens.value[i]);
                if (wrong != 0) {
                    blame(wrong, tokens.start[i]);
                }
            }
        }

        private int take(Book into, int kind, long value) {
            if (inLaw) {
                takeInLaw(into, kind, (int) value);
                return 0;
            }
            step++;
            if (kind == NAME) {
                return takeName(into, value);
            }
            if (kind == NUMBER) {
                return takeNumber(into, (int) value);
            }
            if (kind == EQUALS) {
                inLaw = true;
                lawStart = into.laws.size;
            } else if (kind != SEMICOLON) {
                tell = kind;
                step = 0;
            }
            return 0;
        }

        private int takeName(Book into, long name) {
            if (tell == MAN || tell == GOOD) {
                return addName(into, name);
            }
            if (tell == PRICE || step > 1) {
                good = numberOf(goodNames, into.goods, name);
                return good < 0 ? UNKNOWN : 0;
            }
            man = numberOf(manNames, into.men, name);
            return man < 0 ? UNKNOWN : 0;
        }

        private int addName(Book into, long name) {
            if (numberOf(manNames, into.men, name) >= 0 || numberOf(goodNames, into.goods, name) >= 0) {
                return TWICE;
            }
            if (tell == MAN && into.men < MOST_MEN) {
                man = into.men;
                manNames[man] = name;
                into.men++;
            } else if (tell == GOOD && into.goods < MOST_GOODS) {
                good = into.goods;
                goodNames[good] = name;
                into.goods++;
            }
            return 0;
        }

        private static int numberOf(long[] names, int number, long name) {
            for (int i = 0; i < number && i < names.length; i++) {
                if (names[i] == name) {
                    return i;
                }
            }
            return NONE;
        }

        private int takeNumber(Book into, int n) {
            switch (tell) {
                case MAN: return takeOfMan(into, n);
                case GOOD: return takeOfGood(into, n);
                case FAINT:
                    into.faint = n;
                    return n <= 100 ? 0 : WRONG;
                default:
                    into.grace = n;
                    return n <= 9 ? 0 : WRONG;
            }
        }

        private int takeOfMan(Book into, int n) {
            if (man < 0 || man >= MOST_MEN) {
                return WRONG;
            }
            switch (step) {
                case 2:
                    into.ink[man] = n;
                    return 0;
                case 3:
                    into.water[man] = n;
                    return 0;
                case 4:
                    into.hunger[man] = n;
                    return n >= 1 && n <= 9 ? 0 : WRONG;
                default:
                    into.larder[man] = n;
                    return n <= 999 ? 0 : WRONG;
            }
        }

        private int takeOfGood(Book into, int n) {
            if (good < 0 || good >= MOST_GOODS) {
                return WRONG;
            }
            if (step == 2) {
                into.bread[good] = n;
                return n >= 1 && n <= 9 ? 0 : WRONG;
            }
            into.store[good] = n;
            return n <= 999 ? 0 : WRONG;
        }

        private void takeInLaw(Book into, int kind, int number) {
            if (kind == NUMBER) {
                into.laws.put(Laws.NUMBER_OP, number);
            } else if (kind >= INK && kind <= COST) {
                into.laws.put(Laws.SEEN_OP, kind - INK);
            } else if (kind == OPEN) {
                setPending(kind);
            } else if (kind == CLOSE) {
                putPending(into.laws, 1);
                pendingNumber = Math.max(0, pendingNumber - 1);
            } else if (kind >= PLUS && kind <= BY) {
                putPending(into.laws, rankOf(kind));
                setPending(kind);
            } else {
                putPending(into.laws, 1);
                endPart(into, kind);
            }
        }

        private void setPending(int kind) {
            if (pendingNumber < pending.length) {
                pending[pendingNumber] = kind;
                pendingNumber++;
            }
        }

        private static int rankOf(int kind) {
            return kind == OPEN ? 0 : kind == PLUS || kind == MINUS ? 1 : 2;
        }

        private void putPending(Laws laws, int leastRank) {
            while (pendingNumber > 0 && rankOf(pending[pendingNumber - 1]) >= leastRank) {
                pendingNumber--;
                laws.put(pending[pendingNumber], 0);
            }
        }

        private void endPart(Book into, int kind) {
            if (kind == THEN) {
                openIf = into.laws.size;
                into.laws.put(Laws.UNLESS_OP, 0);
            } else if (kind == ELSE) {
                into.laws.put(Laws.END_OP, 0);
                into.laws.setTarget(openIf);
            } else if (kind == SEMICOLON) {
                into.laws.put(Laws.END_OP, 0);
                inLaw = false;
                into.setLaw(tell, man, good, lawStart);
            }
        }
    }

    /** The LAWS of a text, each a row of steps over a stack; of + - * / a step is the sign's kind. */
    private static final class Laws {
        private static final int NUMBER_OP = 0;
        private static final int SEEN_OP = 1;
        private static final int UNLESS_OP = 2;
        private static final int END_OP = 3;
        private static final int SEEN = 7;

        private final int[] ops = new int[MOST_TOKENS];
        private final int[] with = new int[MOST_TOKENS];
        private final int[] seen = new int[SEEN];
        private final int[] stack = new int[MOST_TOKENS];
        private int size;

        void put(int op, int number) {
            if (size < ops.length) {
                ops[size] = op;
                with[size] = number;
                size++;
            }
        }

        /** What is put next is where an if that does not hold goes on. */
        void setTarget(int at) {
            if (at >= 0 && at < size) {
                with[at] = size;
            }
        }

        void see(int ink, int soot, int larder, int day, int store, int bought, int cost) {
            seen[0] = ink;
            seen[1] = soot;
            seen[2] = larder;
            seen[3] = day;
            seen[4] = store;
            seen[5] = bought;
            seen[6] = cost;
        }

        /** What the LAW tells that starts there, held to 0 .. most. */
        int valueFrom(int start, int most) {
            int top = 0;
            for (int at = start < 0 ? size : start; at < size; at++) {
                int op = ops[at];
                int number = with[at];
                if (op == NUMBER_OP || op == SEEN_OP) {
                    if (top >= stack.length || op == SEEN_OP && (number < 0 || number >= seen.length)) {
                        return 0;
                    }
                    stack[top] = op == NUMBER_OP ? number : seen[number];
                    top++;
                } else if (op == END_OP) {
                    return top > 0 ? Math.max(0, Math.min(stack[top - 1], most)) : 0;
                } else if (top < 2) {
                    return 0;
                } else if (op == UNLESS_OP) {
                    top -= 2;
                    if (stack[top] >= stack[top + 1] && number > at) {
                        at = number - 1;
                    }
                } else {
                    top--;
                    if (op == BY && stack[top] == 0) {
                        return 0;
                    }
                    stack[top - 1] = combined(op, stack[top - 1], stack[top]);
                }
            }
            return 0;
        }

        private static int combined(int sign, int left, int right) {
            switch (sign) {
                case PLUS: return left + right;
                case MINUS: return left - right;
                case TIMES: return left * right;
                default: return right == 0 ? 0 : left / right;
            }
        }
    }

    /** BUYS or WANTS: LAWS each of a MAN and a GOOD. */
    private static final class Deals {
        private final int[] man = new int[MOST_DEALS];
        private final int[] good = new int[MOST_DEALS];
        private final int[] law = new int[MOST_DEALS];
        private int number;

        void add(int whose, int ofWhat, int start) {
            if (number < MOST_DEALS) {
                man[number] = whose;
                good[number] = ofWhat;
                law[number] = start;
                number++;
            }
        }

        boolean areAnyOf(int whose) {
            for (int i = 0; i < number; i++) {
                if (man[i] == whose) {
                    return true;
                }
            }
            return false;
        }
    }

    /** What a text tells. */
    private static final class Book {
        private final int[] ink = new int[MOST_MEN];
        private final int[] water = new int[MOST_MEN];
        private final int[] hunger = new int[MOST_MEN];
        private final int[] larder = new int[MOST_MEN];
        private final int[] dipsLaw = new int[MOST_MEN];
        private final int[] bread = new int[MOST_GOODS];
        private final int[] store = new int[MOST_GOODS];
        private final int[] priceLaw = new int[MOST_GOODS];
        private final Deals buys = new Deals();
        private final Deals wants = new Deals();
        private final Laws laws = new Laws();
        private int men;
        private int goods;
        private int faint;
        private int grace;

        Book() {
            clear();
        }

        void clear() {
            men = 0;
            goods = 0;
            faint = 50;
            grace = 2;
            buys.number = 0;
            wants.number = 0;
            laws.size = 0;
            Arrays.fill(dipsLaw, NONE);
            Arrays.fill(priceLaw, NONE);
        }

        void setLaw(int tell, int man, int good, int start) {
            if (tell == PRICE && good >= 0 && good < goods) {
                priceLaw[good] = start;
            } else if (tell == DIPS && man >= 0 && man < men) {
                dipsLaw[man] = start;
            } else if (tell == BUYS) {
                buys.add(man, good, start);
            } else if (tell == WANTS) {
                wants.add(man, good, start);
            }
        }
    }

    /** A town as it stands on some day. All but the PAGES is in one row, so that it is copied at once. */
    private static final class Town {
        private static final int SOOT = 0;
        private static final int WATER = SOOT + MOST_MEN;
        private static final int LARDER = WATER + MOST_MEN;
        private static final int UNFED = LARDER + MOST_MEN;
        private static final int ALIVE = UNFED + MOST_MEN;
        private static final int LINES = ALIVE + MOST_MEN;
        private static final int STORE = LINES + MOST_MEN;
        private static final int BOUGHT = STORE + MOST_GOODS;
        private static final int DEBTS = BOUGHT + MOST_GOODS;
        private static final int DAY = DEBTS + MOST_MEN * MOST_MEN;
        private static final int PAGES = DAY + 1;
        /** What is ahead of this a SLOT holds. What is TOLD stands behind: no SLOT holds it, but it is undone. */
        private static final int HELD = PAGES + 1;
        private static final int TOLD = HELD;
        private static final int SETS = TOLD + 1;
        private static final int STRENGTHS = SETS + MOST_TOLD;
        private static final int CELLS = STRENGTHS + MOST_TOLD;

        private final int[] cells = new int[CELLS];
        private final int[] pages = new int[MOST_PAGES * PAGE_CELLS];
        private Book book;

        Town(Book told) {
            book = told;
        }

        static int debtCell(int man, int to) {
            return DEBTS + man * MOST_MEN + to;
        }

        void startFrom(Book told) {
            book = told;
            Arrays.fill(cells, 0);
            for (int man = 0; man < told.men; man++) {
                cells[SOOT + man] = told.ink[man];
                cells[WATER + man] = told.water[man];
                cells[LARDER + man] = told.larder[man];
                cells[ALIVE + man] = 1;
            }
            for (int good = 0; good < told.goods; good++) {
                cells[STORE + good] = told.store[good];
            }
        }

        /** The PAGES themselves stay away: what would be asks only how many there are. */
        void becomeLike(Town other) {
            System.arraycopy(other.cells, 0, cells, 0, HELD);
        }

        boolean isAlive(int man) {
            return cells[ALIVE + man] == 1;
        }

        boolean bothLive(int man, int other) {
            return isAlive(man) && isAlive(other);
        }

        int living() {
            int number = 0;
            for (int man = 0; man < book.men; man++) {
                number += cells[ALIVE + man];
            }
            return number;
        }

        int dropsOf(int man) {
            return cells[SOOT + man] + cells[WATER + man];
        }

        int allDrops() {
            int drops = 0;
            for (int man = 0; man < book.men; man++) {
                drops += dropsOf(man);
            }
            return drops;
        }

        int strengthOf(int man) {
            return strength(cells[SOOT + man], dropsOf(man));
        }

        static int strength(int soot, int drops) {
            return drops == 0 ? 0 : soot * 100 / drops;
        }

        int daysOf(int man, int bread) {
            int hunger = book.hunger[man];
            return hunger == 0 ? 0 : (cells[LARDER + man] + bread) / hunger;
        }

        int dipsNow(int man) {
            int law = book.dipsLaw[man];
            if (law == NONE) {
                return 1;
            }
            book.laws.see(dropsOf(man), cells[SOOT + man], cells[LARDER + man], cells[DAY],
                0, cells[LINES + man], 0);
            return book.laws.valueFrom(law, MOST_DIPS);
        }

        int priceNow(int good) {
            int law = book.priceLaw[good];
            if (law == NONE) {
                return 1;
            }
            int drops = 0;
            int soot = 0;
            int larder = 0;
            for (int man = 0; man < book.men; man++) {
                if (isAlive(man)) {
                    drops += dropsOf(man);
                    soot += cells[SOOT + man];
                    larder += cells[LARDER + man];
                }
            }
            book.laws.see(drops, soot, larder, cells[DAY], cells[STORE + good], cells[BOUGHT + good], 0);
            return book.laws.valueFrom(law, MOST_PRICE);
        }

        private int dealt(Deals deals, int i, int cost, int most) {
            int man = deals.man[i];
            int good = deals.good[i];
            book.laws.see(dropsOf(man), cells[SOOT + man], cells[LARDER + man], cells[DAY],
                cells[STORE + good], cells[BOUGHT + good], cost);
            return book.laws.valueFrom(deals.law[i], most);
        }

        int nextPrice(int good, int price) {
            Deals wants = book.wants;
            int wanted = 0;
            for (int i = 0; i < wants.number; i++) {
                if (wants.good[i] == good && isAlive(wants.man[i])) {
                    wanted += dealt(wants, i, price, MOST_WANTED);
                }
            }
            int store = cells[STORE + good];
            if (wanted > store) {
                return Math.min(price + 1, MOST_PRICE);
            }
            return wanted < store ? Math.max(price - 1, 0) : price;
        }

        private int sootAmong(int man, int n) {
            int drops = dropsOf(man);
            return drops == 0 ? 0 : (int) ((long) cells[SOOT + man] * n / drops);
        }

        /** DROPS go from one to another one, DIPPED. */
        void pass(int from, int to, int n) {
            int soot = sootAmong(from, n);
            cells[SOOT + from] -= soot;
            cells[WATER + from] -= n - soot;
            cells[SOOT + to] += soot;
            cells[WATER + to] += n - soot;
        }

        private boolean hasPagesLeft() {
            return cells[PAGES] < MOST_PAGES;
        }

        private boolean mayBuy(int man) {
            return isAlive(man) && hasPagesLeft() && strengthOf(man) >= book.faint;
        }

        /** ORDERS as many as he can, least .. most: how many DROPS, or CANNOT. */
        int buy(int man, int good, int least, int most, int price) {
            if (!mayBuy(man)) {
                return CANNOT;
            }
            int dips = dipsNow(man);
            int forOne = price * dips;
            int n = Math.min(most, cells[STORE + good]);
            if (forOne > 0) {
                n = Math.min(n, dropsOf(man) / forOne);
            }
            if (n < least) {
                return CANNOT;
            }
            writePage(man, good, n, n * price, n * forOne);
            cells[STORE + good] -= n;
            cells[BOUGHT + good] += n;
            cells[LARDER + man] += n * book.bread[good];
            return n * forOne;
        }

        int writeLetter(int man, int lines) {
            if (!isAlive(man) || !hasPagesLeft()) {
                return CANNOT;
            }
            int drops = lines * dipsNow(man);
            if (drops > dropsOf(man)) {
                return CANNOT;
            }
            writePage(man, TO_NOBODY, lines, lines, drops);
            return drops;
        }

        private void writePage(int man, int good, int n, int lines, int drops) {
            if (!hasPagesLeft()) {
                return;
            }
            int soot = sootAmong(man, drops);
            int at = cells[PAGES] * PAGE_CELLS;
            pages[at] = man;
            pages[at + 1] = good;
            pages[at + 2] = n;
            pages[at + 3] = drops;
            pages[at + 4] = soot;
            pages[at + 5] = cells[DAY];
            cells[PAGES]++;
            cells[SOOT + man] -= soot;
            cells[WATER + man] -= drops - soot;
            cells[LINES + man] += lines;
        }

        /** A DAY, in which one (or NONE) BUYS nothing. */
        void passDay(int without) {
            Deals buys = book.buys;
            for (int i = 0; i < buys.number; i++) {
                if (buys.man[i] != without) {
                    buyByLaw(i);
                }
            }
            for (int man = 0; man < book.men; man++) {
                if (isAlive(man)) {
                    eat(man);
                }
            }
            cells[DAY]++;
        }

        private void buyByLaw(int i) {
            int man = book.buys.man[i];
            int good = book.buys.good[i];
            // Who can't buy at all needs no LAWS looked at: most of the days ahead are such.
            if (cells[STORE + good] == 0 || !mayBuy(man)) {
                return;
            }
            int price = priceNow(good);
            int n = dealt(book.buys, i, price, MOST_BOUGHT);
            if (n > 0) {
                buy(man, good, 1, n, price);
            }
        }

        private void eat(int man) {
            int left = cells[LARDER + man] - book.hunger[man];
            cells[LARDER + man] = Math.max(0, left);
            cells[UNFED + man] = left < 0 ? cells[UNFED + man] + 1 : 0;
            if (cells[UNFED + man] > book.grace) {
                cells[ALIVE + man] = 0;
            }
        }

        /** At the end of how many of the next days, most at most, he is alive; they go by here. */
        int daysAlive(int man, int most, int without) {
            if (!isAlive(man)) {
                return 0;
            }
            for (int days = 0; days < most; days++) {
                // Nobody takes from a LARDER, so that one that is full enough settles it.
                if (daysOf(man, 0) >= most - days) {
                    return most;
                }
                passDay(without);
                if (!isAlive(man)) {
                    return days;
                }
            }
            return most;
        }
    }

    /** The towns ahead of the last things done, in a round row with one place to note the next in. */
    private static final class Past {
        private static final int MOST = 25;
        private static final int PLACES = MOST + 1;

        private final int[] cells = new int[PLACES * Town.CELLS];
        private int next;
        private int number;

        void clear() {
            number = 0;
        }

        // PAGES need no copy: those that a noted town has are not written over till it is taken back.
        void note(Town town) {
            System.arraycopy(town.cells, 0, cells, next * Town.CELLS, Town.CELLS);
        }

        void keepIf(boolean done) {
            if (done) {
                next = (next + 1) % PLACES;
                number = Math.min(number + 1, MOST);
            }
        }

        boolean takeBack(Town town) {
            if (number == 0) {
                return false;
            }
            number--;
            next = (next + PLACES - 1) % PLACES;
            System.arraycopy(cells, next * Town.CELLS, town.cells, 0, Town.CELLS);
            return true;
        }
    }

    /** BEST for a MAN. */
    private static final class Basket {
        /** By GOODS from the one on, for so many DROPS or fewer: the most BREAD. */
        private final int[][] most = new int[MOST_GOODS + 1][MOST_SPENT + 1];
        private final int[] cost = new int[MOST_GOODS];
        private final int[] limit = new int[MOST_GOODS];
        private final int[] picks = new int[MOST_GOODS];
        private int bread;
        private int drops;

        void choose(Town town, int man) {
            bread = 0;
            drops = 0;
            Arrays.fill(picks, 0);
            if (!town.isAlive(man) || town.strengthOf(man) < town.book.faint) {
                return;
            }
            int goods = town.book.goods;
            int budget = Math.max(0, Math.min(town.dropsOf(man), MOST_SPENT));
            int dips = town.dipsNow(man);
            Arrays.fill(most[goods], 0);
            for (int good = goods - 1; good >= 0; good--) {
                cost[good] = town.priceNow(good) * dips;
                limit[good] = Math.min(MOST_BOUGHT, town.cells[Town.STORE + good]);
                addGood(good, town.book.bread[good], budget);
            }
            bread = most[0][budget];
            while (drops < budget && most[0][drops] < bread) {
                drops++;
            }
            pick(town.book);
        }

        /** In lots of 1, 2, 4 .. of it: these make up every number up to the limit. */
        private void addGood(int good, int breadOfOne, int budget) {
            int[] row = most[good];
            System.arraycopy(most[good + 1], 0, row, 0, budget + 1);
            int left = limit[good];
            for (int lot = 1; lot <= 64; lot *= 2) {
                int n = Math.min(lot, left);
                left -= n;
                int spent = n * cost[good];
                for (int d = budget; n > 0 && d >= spent; d--) {
                    row[d] = Math.max(row[d], row[d - spent] + n * breadOfOne);
                }
            }
        }

        /** As drops is the least that brings bread, whatever brings it for no more brings it for just that. */
        private void pick(Book book) {
            int breadLeft = bread;
            int dropsLeft = drops;
            for (int good = 0; good < book.goods; good++) {
                int n = leastOf(good, book.bread[good], breadLeft, dropsLeft);
                picks[good] = n;
                breadLeft -= n * book.bread[good];
                dropsLeft -= n * cost[good];
            }
        }

        private int leastOf(int good, int breadOfOne, int breadLeft, int dropsLeft) {
            for (int n = 0; n <= limit[good]; n++) {
                int rest = dropsLeft - n * cost[good];
                if (rest < 0) {
                    return 0;
                }
                if (n * breadOfOne + most[good + 1][rest] == breadLeft) {
                    return n;
                }
            }
            return 0;
        }
    }

    /** The TOLD tests, poured together anew with the ink of now. */
    private static final class Tests {
        private final int[] soot = new int[MOST_TOLD];
        private final int[] drops = new int[MOST_TOLD];

        /** How many ways (i NONE), or the i-th. That none WATERED is MAN 0 by 0. */
        int waysAfter(Town town, int most, int known, int i) {
            int k = Math.min(known, MOST_TOLD);
            pour(town, k);
            int ways = 0;
            for (int man = 0; man < town.book.men; man++) {
                for (int more = man == 0 ? 0 : 1; more <= most; more++) {
                    if (isSo(town, k, man, more)) {
                        if (ways == i) {
                            return 1000 * man + more;
                        }
                        ways++;
                    }
                }
            }
            return i == NONE ? ways : NONE;
        }

        private void pour(Town town, int k) {
            for (int t = 0; t < k; t++) {
                soot[t] = 0;
                drops[t] = 0;
                for (int man = 0; man < town.book.men; man++) {
                    if (isIn(town, t, man)) {
                        soot[t] += town.cells[Town.SOOT + man];
                        drops[t] += town.dropsOf(man);
                    }
                }
            }
        }

        private static boolean isIn(Town town, int test, int man) {
            return (town.cells[Town.SETS + test] >> man & 1) == 1;
        }

        private boolean isSo(Town town, int k, int man, int more) {
            for (int t = 0; t < k; t++) {
                int poured = isIn(town, t, man) ? more : 0;
                if (Town.strength(soot[t], drops[t] + poured) != town.cells[Town.STRENGTHS + t]) {
                    return false;
                }
            }
            return true;
        }
    }
}
