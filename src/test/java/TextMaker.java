import java.util.ArrayList;
import java.util.List;
import java.util.Random;

/** Makes random texts, most of them without a FAULT. */
final class TextMaker {
    private static final String[] VARS = {"ink", "soot", "larder", "day", "store", "bought", "cost"};
    private final Random random;
    private final List<String> men = new ArrayList<>();
    private final List<String> goods = new ArrayList<>();
    private final StringBuilder text = new StringBuilder();

    TextMaker(Random random) {
        this.random = random;
    }

    private int upTo(int most) {
        return random.nextInt(most + 1);
    }

    private boolean chance(int ofHundred) {
        return random.nextInt(100) < ofHundred;
    }

    String text() {
        int people = chance(3) ? upTo(7) : 1 + upTo(5);
        for (int i = 0; i < people; i++) {
            String name = name("m", men.size());
            men.add(name);
            put("man " + name + " " + number(chance(10) ? 9999 : 300) + " " + number(chance(50) ? 20 : 200) + " "
                + (chance(1) ? 0 : 1 + upTo(chance(70) ? 2 : 8)) + " " + number(12));
        }
        int things = chance(3) ? upTo(6) : 1 + upTo(4);
        for (int i = 0; i < things; i++) {
            String name = name("g", goods.size());
            goods.add(name);
            put("good " + name + " " + (1 + upTo(8)) + " " + number(chance(20) ? 999 : 25));
        }
        for (int i = upTo(4); i > 0; i--) {
            lawOrSo();
        }
        for (int i = upTo(6); i > 0; i--) {
            deal("buys");
        }
        for (int i = upTo(6); i > 0; i--) {
            deal("wants");
        }
        for (int i = upTo(3); i > 0; i--) {
            lawOrSo();
        }
        return text.length() > 2000 ? text.substring(0, 2000) : text.toString();
    }

    private int number(int most) {
        return upTo(most);
    }

    private String name(String first, int i) {
        return chance(1) ? "same" : first + (char) ('a' + i) + (chance(10) ? "zzzzzz" : "");
    }

    private String one(List<String> names) {
        return names.isEmpty() || chance(1) ? "nobody" : names.get(random.nextInt(names.size()));
    }

    private void put(String tell) {
        text.append(tell).append(chance(50) ? " ;\n" : ";");
    }

    private void lawOrSo() {
        switch (random.nextInt(6)) {
            case 0: put("faint " + upTo(chance(5) ? 110 : 60)); break;
            case 1: put("grace " + upTo(chance(5) ? 11 : 4)); break;
            case 2: put("dips " + one(men) + " =" + (chance(60) ? " " + upTo(4) : law())); break;
            default: put("price " + one(goods) + " =" + (chance(40) ? " " + upTo(9) : law())); break;
        }
    }

    private void deal(String word) {
        put(word + " " + one(men) + " " + one(goods) + " =" + (chance(20) ? " " + upTo(9) : law()));
    }

    private String law() {
        StringBuilder s = new StringBuilder();
        for (int i = chance(2) ? 5 : chance(60) ? 0 : upTo(2); i > 0; i--) {
            s.append(" if ").append(sum(0)).append(" < ").append(sum(0)).append(" then ").append(sum(0)).append(" else ");
        }
        return s.append(' ').append(sum(0)).toString();
    }

    private String sum(int depth) {
        StringBuilder s = new StringBuilder(part(depth));
        for (int i = chance(50) ? 0 : upTo(2); i > 0; i--) {
            s.append(chance(50) ? "+" : " - ").append(part(depth));
        }
        return s.toString();
    }

    private String part(int depth) {
        StringBuilder s = new StringBuilder(unit(depth));
        for (int i = chance(70) ? 0 : upTo(2); i > 0; i--) {
            s.append(chance(40) ? "*" : " / ").append(unit(depth));
        }
        return s.toString();
    }

    private String unit(int depth) {
        if (depth < 8 && chance(12)) {
            return "(" + sum(depth + 1) + ")";
        }
        return chance(55) ? VARS[random.nextInt(VARS.length)] : String.valueOf(chance(5) ? upTo(9999) : upTo(12));
    }
}
