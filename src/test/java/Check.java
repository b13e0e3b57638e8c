/** Counts the answers that are not as due, and feeds texts. */
final class Check {
    private final String about;
    private int wrong;
    private int asked;

    Check(String about) {
        this.about = about;
    }

    void due(String call, long got, long want) {
        asked++;
        if (got != want) {
            wrong++;
            System.out.println(about + ": " + call + " answered " + got + ", due is " + want);
        }
    }

    void due(String call, boolean got, boolean want) {
        due(call, got ? 1 : 0, want ? 1 : 0);
    }

    /** A text read by a new object has that FAULT, there; 0 and -1 for none. */
    void fault(String text, int fault, int place) {
        SiegeInk x = new SiegeInk();
        due("read of " + shown(text), read(x, text), fault);
        due("place of " + shown(text), x.place(), place);
    }

    void fine(String text) {
        fault(text, 0, -1);
    }

    private static String shown(String text) {
        return "'" + (text.length() > 90 ? text.substring(0, 90) + ".." : text) + "'";
    }

    void end() {
        System.out.println(about + ": " + asked + " answers, " + wrong + " not as due");
        if (wrong != 0) {
            System.exit(1);
        }
    }

    /** Puts a text behind the tape: as many bytes as it has, which feed alone can't. */
    static void feed(SiegeInk x, String text) {
        int padded = (text.length() + 19) / 20 * 20;
        int[] words = new int[padded / 4];
        for (int i = 0; i < padded; i++) {
            int b = i < text.length() ? text.charAt(i) & 255 : ' ';
            words[i / 4] = words[i / 4] << 8 | b;
        }
        for (int i = 0; i < words.length; i += 5) {
            x.feed(words[i], words[i + 1], words[i + 2], words[i + 3], words[i + 4]);
        }
        x.back(padded - text.length());
    }

    static int read(SiegeInk x, String text) {
        feed(x, text);
        return x.read();
    }

    static SiegeInk town(String text) {
        SiegeInk x = new SiegeInk();
        int fault = read(x, text);
        if (fault != 0) {
            throw new IllegalStateException("fault " + fault + " at " + x.place() + " of: " + text);
        }
        return x;
    }
}
