import java.util.ArrayList;
import java.util.List;

/**
 * Two towns with one past. On one of them a call is made that must change nothing: all answers that come later,
 * of what can be undone and of what is held too, must then be those of the other one.
 */
final class Twins {
    interface Deeds {
        void on(SiegeInk x);
    }

    interface Call {
        long of(SiegeInk x);
    }

    interface Try {
        boolean of(SiegeInk x);
    }

    private final Check check;
    private final String text;
    private final Deeds past;

    Twins(Check check, String text, Deeds past) {
        this.check = check;
        this.text = text;
        this.past = past;
    }

    private SiegeInk one() {
        SiegeInk x = Check.town(text);
        past.on(x);
        return x;
    }

    /** The call has this answer, and changes nothing. */
    void unchanged(String what, long due, Call call) {
        SiegeInk touched = one();
        check.due(what, call.of(touched), due);
        alike(check, what + ": later answers", later(touched), later(one()));
    }

    /** The call answers false, and changes nothing. */
    void refuses(String what, Try call) {
        unchanged(what, 0, x -> call.of(x) ? 1 : 0);
    }

    /** What is done and then undone leaves all as it was. */
    void undone(String what, Deeds deed) {
        SiegeInk touched = one();
        deed.on(touched);
        check.due(what + ": undo()", touched.undo(), true);
        alike(check, what + ": undone", later(touched), later(one()));
    }

    static void alike(Check check, String what, List<String> got, List<String> want) {
        check.due(what + ": how many", got.size(), want.size());
        for (int i = 0; i < Math.min(got.size(), want.size()); i++) {
            boolean same = got.get(i).equals(want.get(i));
            check.due(same ? what : what + ": " + got.get(i) + " in place of " + want.get(i), same, true);
            if (!same) {
                return;
            }
        }
    }

    /** Every question's answer; then all is undone, restored and read, with a look at what is there each time. */
    static List<String> later(SiegeInk x) {
        List<String> all = new ArrayList<>();
        all.addAll(now(x));
        all.add("things that can be undone: " + x.count(12));
        int undone = 0;
        while (undone < 30 && x.undo()) {
            undone++;
            glance(x, all);
        }
        all.add("undone: " + undone);
        for (int slot = 0; slot < 3; slot++) {
            all.add("restore(" + slot + "): " + x.restore(slot));
            glance(x, all);
        }
        all.add("read(): " + x.read());
        all.add("place(): " + x.place());
        glance(x, all);
        return all;
    }

    /** Every question's answer but of what can be undone; of many PAGES only the first and the last ones. */
    static List<String> now(SiegeInk x) {
        List<String> all = new ArrayList<>();
        for (int what = 0; what < 15; what++) {
            if (what != 12) {
                all.add("count(" + what + "): " + x.count(what));
            }
        }
        int men = x.count(0);
        for (int man = 0; man < men; man++) {
            for (int what = 0; what < 8; what++) {
                all.add("man(" + man + ", " + what + "): " + x.man(man, what));
            }
            for (int to = 0; to < men; to++) {
                all.add("debt(" + man + ", " + to + "): " + x.debt(man, to));
            }
        }
        for (int good = 0; good < x.count(1); good++) {
            for (int what = 0; what < 4; what++) {
                all.add("good(" + good + ", " + what + "): " + x.good(good, what));
            }
        }
        int pages = x.count(8);
        for (int i = 0; i <= pages; i++) {
            if (i < 3 || i >= pages - 2) {
                for (int what = 0; what < 6; what++) {
                    all.add("page(" + i + ", " + what + "): " + x.page(i, what));
                }
            }
        }
        for (int i = -1; i < 4; i++) {
            all.add("watered(30, TOLD, " + i + "): " + x.watered(30, x.count(13), i));
        }
        all.add("over(): " + x.over());
        all.add("last(): " + x.last());
        all.add("settles(0, 9, 1): " + x.settles(0, 9, 1));
        return all;
    }

    private static void glance(SiegeInk x, List<String> all) {
        int[] whats = {6, 7, 8, 9, 10, 13};
        for (int what : whats) {
            all.add("count(" + what + "): " + x.count(what));
        }
        all.add("larder: " + x.man(0, 3));
        all.add("debt: " + x.debt(1, 0));
        all.add("store: " + x.good(0, 0));
    }
}
