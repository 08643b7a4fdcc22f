import java.util.Random;

/** Draws texts of towns. */
final class TownText {
    private TownText() { }

    static String draw(Random r, boolean big) {
        int people = big ? 5 + r.nextInt(4) : 1 + r.nextInt(5);
        StringBuilder s = new StringBuilder();
        int style = r.nextInt(4);
        for (int p = 0; p < people; p++) s.append("person ").append(sort(r, style)).append(';');
        int near = r.nextInt(4);
        for (int p = 0; p < people; p++) {
            for (int q = 0; q < people; q++) {
                if (p == q || r.nextInt(4) < near && r.nextInt(3) > 0) continue;
                s.append("knows ").append(p).append(' ').append(q);
                if (r.nextInt(3) == 0 && !big) s.append(" weight ").append(1 + r.nextInt(r.nextInt(5) == 0 ? 99 : 4));
                s.append(';');
            }
        }
        if (r.nextInt(8) > 0) s.append(letter(r, big));
        if (r.nextInt(6) > 0) s.append("law ").append(r.nextInt(3) == 0 ? "once" : r.nextBoolean() ? "again" : "back").append(';');
        if (r.nextInt(3) == 0) s.append("wax ").append(1 + r.nextInt(r.nextInt(4) == 0 ? 99 : 6)).append(';');
        if (r.nextInt(3) == 0) s.append("first ").append(r.nextInt(people)).append(';');
        return s.toString();
    }

    private static String letter(Random r, boolean big) {
        int start = r.nextInt(8) == 0 ? r.nextInt(10000) : r.nextInt(12);
        int penny = r.nextInt(8) == 0 ? r.nextInt(100) : r.nextInt(4);
        int hands = big ? 6 + r.nextInt(7) : 1 + r.nextInt(7);
        String s = "letter " + start + " " + penny + " " + hands;
        if (r.nextBoolean()) s += " prize " + (r.nextInt(8) == 0 ? r.nextInt(10000) : r.nextInt(60));
        if (r.nextBoolean()) s += " pays " + (r.nextInt(8) == 0 ? r.nextInt(10000) : r.nextInt(12));
        return s + ";";
    }

    private static String sort(Random r, int style) {
        int sort = r.nextInt(4);
        if (style == 1 && sort == 0) sort = 1;
        if (style == 2 && sort < 2) sort = 3;
        switch (sort) {
            case 0: return "opens " + (r.nextInt(8) == 0 ? r.nextInt(10000) : 2 + r.nextInt(30));
            case 1: return "sends";
            case 2: return "luck " + (r.nextInt(6) == 0 ? 333 * r.nextInt(4) + r.nextInt(2) : r.nextInt(700));
            default: return r.nextBoolean() ? "best" : "best name " + (r.nextInt(9) == 0 ? r.nextInt(10000) : r.nextInt(20));
        }
    }

    /** Puts something out of place: a byte, a word, a number, or the end. */
    static String spoil(Random r, String text) {
        if (text.isEmpty()) return text;
        int at = r.nextInt(text.length());
        String[] bits = {";", "x", "9", "12345", " 0 ", " 99 ", " person ", " weight ", " name ", " pays ", "\n", "A", ".",
            "" + (char) 233, "knows 0 0;", "knows 0 1;", "first 7;", "wax 3;wax 4;", "letter 1 1 1;", "law once;law back;", ""};
        String bit = bits[r.nextInt(bits.length)];
        switch (r.nextInt(4)) {
            case 0: return text.substring(0, at);
            case 1: return text.substring(0, at) + bit + text.substring(at);
            case 2: return text.substring(0, at) + bit + text.substring(Math.min(text.length(), at + 1 + r.nextInt(3)));
            default: {
                int sign = text.indexOf(';', at);
                return text.substring(0, sign + 1) + bit + text.substring(sign + 1);
            }
        }
    }
}
