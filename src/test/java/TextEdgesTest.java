/** Promises 1 to 7 at their edges: each range's ends, each byte, each place where a TEXT can end. */
public final class TextEdgesTest {
    private static final Check c = new Check();
    private static final int NONE = LetterTown.NONE;
    private static final String TWO = "person sends;person sends;";
    private static final String ALL_LINES = "person opens 5 ; person best name 6 ; person luck 7 ; person sends ; "
        + "person best ; knows 0 1 weight 2 ; knows 1 2 ; letter 1 2 3 prize 4 pays 5 ; law again ; wax 6 ; first 3 ;";

    private static final String MAY_LACK = " name weight prize pays ";

    private interface Told { int of(LetterTown x); }

    public static void main(String[] args) {
        numbers();
        persons();
        without();
        bytesOfTokens();
        endsTooSoon();
        cannotStand();
        words();
        ninePeople();
        leastOfOneToken();
        firstAlongTheText();
        knowsTwice();
        toldTwice();
        placesOfBytes();
        fullTape();
        firstBytes();
        allAnew();
        answers();
        c.end();
    }

    /** "START (0 to 9999 pence), PENNY (0 to 99), HANDS (1 to 12) .." and all other NUMBERS. */
    private static void numbers() {
        number("person opens ", ";", 0, 9999, x -> x.person(0, 1));
        number("person luck ", ";", 0, 1000, x -> x.person(0, 1));
        number("person best name ", ";", 0, 9999, x -> x.person(0, 1));
        number(TWO + "knows 0 1 weight ", ";", 1, 99, x -> x.weight(0, 1));
        number("letter ", " 0 1;", 0, 9999, x -> x.count(1));
        number("letter 0 ", " 1;", 0, 99, x -> x.count(2));
        number("letter 0 0 ", ";", 1, 12, x -> x.count(3));
        number("letter 0 0 1 prize ", ";", 0, 9999, x -> x.count(4));
        number("letter 0 0 1 prize ", " pays 3;", 0, 9999, x -> x.count(4));
        number("letter 0 0 1 pays ", ";", 0, 9999, x -> x.count(5));
        number("letter 0 0 1 prize 7 pays ", ";", 0, 9999, x -> x.count(5));
        number("wax ", ";", 1, 99, x -> x.count(7));
    }

    private static void number(String ahead, String behind, int low, int high, Told told) {
        for (int n : new int[] {low, low + 1, high - 1, high}) {
            taken(ahead + n + behind, n, told);
            taken(ahead + String.format("%04d", n) + behind, n, told);
        }
        if (low > 0) {
            c.read(ahead + (low - 1) + behind, 2, ahead.length());
        }
        c.read(ahead + (high + 1) + behind, 2, ahead.length());
        noNumber(ahead, behind);
    }

    private static void taken(String text, int n, Told told) {
        c.due(text, told.of(c.town(text)), n);
    }

    /** "a NUMBER of 5 digits or more" is too much; what is no NUMBER can't stand there. */
    private static void noNumber(String ahead, String behind) {
        for (String much : new String[] {"00000", "00001", "12345", "000000000001", "4294967297", "18446744073709551617"}) {
            c.read(ahead + much + behind, 2, ahead.length());
        }
        for (String none : new String[] {";", "x", "name", "-1", "+1", ".5", "("}) {
            c.read(ahead + none + behind, 1, ahead.length());
        }
        c.read(ahead, 1, ahead.length());
    }

    /** "a PERSON that isn't told ahead" */
    private static void persons() {
        taken(TWO + "first 0;", 0, x -> x.count(8));
        taken(TWO + "first 1;", 1, x -> x.count(8));
        taken(TWO + "knows 0 1;", 2, x -> x.person(0, 2));
        taken(TWO + "knows 1 0;", 1, x -> x.person(1, 2));
        String[][] around = {{TWO + "first ", ";"}, {TWO + "knows ", " 0;"}, {TWO + "knows 0 ", ";"},
            {TWO + "knows 1 ", " weight 3;"}};
        for (String[] of : around) {
            for (String far : new String[] {"2", "02", "0002", "7", "8", "9", "9999"}) {
                c.read(of[0] + far + of[1], 3, of[0].length());
            }
            noNumber(of[0], of[1]);
        }
        c.read("first 0;", 3, 6);
        c.read("knows 0 1;", 3, 6);
        c.read("first 0;person sends;", 3, 6);
        c.read("person sends;knows 0 1;person sends;", 3, 21);
        c.read("person sends;knows 1 0;person sends;", 3, 19);
        c.read("person sends;first 1;person sends;", 3, 19);
        String eight = Check.people(8, "sends");
        taken(eight + "first 7;", 7, x -> x.count(8));
        taken(eight + "knows 0 7;", 128, x -> x.person(0, 2));
        taken(eight + "knows 7 0;", 1, x -> x.person(7, 2));
        c.read(eight + "first 8;", 3, eight.length() + 6);
        c.read(eight + "knows 7 8;", 3, eight.length() + 8);
        c.read(eight + "knows 8 7;", 3, eight.length() + 6);
    }

    /** "At first: START 1 ..", "WEIGHT 1, NAME 0 without", and a 'letter' without 'prize', 'pays'. */
    private static void without() {
        LetterTown x = c.town("person best;person sends;knows 0 1;");
        int[] due = {2, 1, 1, 8, 0, 0, 0, 1, 0};
        for (int i = 0; i < due.length; i++) {
            c.due("at first " + i, x.count(i), due[i]);
        }
        c.due("NAME 0 without", x.person(0, 1), 0);
        c.due("N 0 of SORT 1", x.person(1, 1), 0);
        c.due("WEIGHT 1 without", x.weight(0, 1), 1);
        x = c.town("letter 9 8 7;");
        c.due("PRIZE 0 without", x.count(4), 0);
        c.due("PAYS 0 without", x.count(5), 0);
        x = c.town("letter 9 8 7 pays 6;");
        c.due("PRIZE 0 without", x.count(4), 0);
        c.due("PAYS", x.count(5), 6);
        x = c.town("letter 9 8 7 prize 6;");
        c.due("PRIZE", x.count(4), 6);
        c.due("PAYS 0 without", x.count(5), 0);
        String[] laws = {"once", "again", "back"};
        for (int i = 0; i < 3; i++) {
            int law = i;
            taken("law " + laws[i] + ";", law, y -> y.count(6));
        }
    }

    private static boolean isLetter(int b) { return b >= 'a' && b <= 'z'; }
    private static boolean isDigit(int b) { return b >= '0' && b <= '9'; }
    private static boolean isBlank(int b) { return b == 32 || b == 10; }

    /** "words (a .. z, the longest row), NUMBERS .., the sign ; and blanks (32, 10)": each byte at four places. */
    private static void bytesOfTokens() {
        for (int b = 0; b < 256; b++) {
            String sign = String.valueOf((char) b);
            c.read(sign + "person sends;", isBlank(b) ? 0 : 1, isBlank(b) ? NONE : 0);
            int behindWord = isBlank(b) ? NONE : isLetter(b) ? 7 : b == ';' ? 13 : 12;
            c.read("person sends" + sign + ";", isBlank(b) ? 0 : 1, behindWord);
            c.read("per" + sign + "son sends;", 1, 0);
            if (isDigit(b)) {
                c.read("wax 1" + sign + "2;", 2, 4);
            } else {
                c.read("wax 1" + sign + "2;", 1, isBlank(b) || b == ';' ? 6 : 5);
            }
            c.read("wax 12;" + sign, isBlank(b) ? 0 : 1, isBlank(b) ? NONE : 7);
        }
        c.read("person\n\n  opens 5\n;\n", 0, NONE);
        c.read("personsends;", 1, 0);
        c.read("person opens5;knows0 1;", 3, 21);
        c.read("wax12;", 0, NONE);
    }

    /** "the text's length where it ends too soon": behind each TOKEN, and with blanks behind it. */
    private static void endsTooSoon() {
        StringBuilder s = new StringBuilder();
        for (String token : ALL_LINES.split(" ")) {
            s.append(token);
            boolean isLine = token.equals(";");
            c.read(s.toString(), isLine ? 0 : 1, isLine ? NONE : s.length());
            c.read(s + " \n ", isLine ? 0 : 1, isLine ? NONE : s.length() + 3);
            s.append(' ');
        }
        c.read("", 0, NONE);
        c.read("\n  \n", 0, NONE);
    }

    /** "a TOKEN that can't stand there, or is none", and a NUMBER of 5 digits where none can stand. */
    private static void cannotStand() {
        StringBuilder s = new StringBuilder();
        for (String token : ALL_LINES.split(" ")) {
            for (String wrong : new String[] {"zzz", "!", "\0", "" + (char) 255, "P"}) {
                c.read(s + wrong, 1, s.length());
            }
            if (!token.equals(";") && !MAY_LACK.contains(" " + token + " ")) {
                c.read(s + ";", 1, s.length());
            }
            boolean number = isDigit(token.charAt(0));
            c.read(s + "12345", number ? 2 : 1, s.length());
            if (!number) {
                c.read(s + "1", 1, s.length());
            }
            s.append(token).append(' ');
        }
    }

    /** A word is itself from its first letter to its last. */
    private static void words() {
        String[] tokens = ALL_LINES.split(" ");
        StringBuilder ahead = new StringBuilder();
        for (int i = 0; i < tokens.length; i++) {
            String t = tokens[i];
            if (isLetter(t.charAt(0))) {
                StringBuilder behind = new StringBuilder();
                for (int j = i + 1; j < tokens.length; j++) behind.append(' ').append(tokens[j]);
                String rest = t.substring(1);
                String start = t.substring(0, t.length() - 1);
                for (String wrong : new String[] {"q" + rest, start + "q", start, rest, t + "q", "q" + t, t.toUpperCase()}) {
                    c.read(ahead + wrong + behind, 1, ahead.length());
                }
            }
            ahead.append(t).append(' ');
        }
    }

    /** "at most 8", "the first TOKEN of the 9th PERSON" */
    private static void ninePeople() {
        String eight = Check.people(8, "sends");
        c.due("eight", c.town(eight).count(0), 8);
        c.read(eight + "person sends;", 2, eight.length());
        c.read(eight + "person", 2, eight.length());
        c.read(eight + "person 12345;", 2, eight.length());
        c.read(eight + "  persons;", 1, eight.length() + 2);
        c.due("another LINE behind eight", c.town(eight + "wax 4;").count(7), 4);
    }

    /** "of one TOKEN the least" */
    private static void leastOfOneToken() {
        c.read(TWO + "knows 0 00000;", 2, TWO.length() + 8);
        c.read(TWO + "knows 0 1;knows 0 00001;", 2, TWO.length() + 18);
        c.read(TWO + "knows 9 9;", 3, TWO.length() + 6);
        c.read(TWO + "knows 0 0;", 4, TWO.length() + 8);
        c.read("wax 3;wax", 5, 6);
        c.read("wax 3;wax 12345;", 5, 6);
        c.read("law once;law nowhere;", 5, 9);
    }

    /** "the first along the text" */
    private static void firstAlongTheText() {
        c.read("wax 0;wax 0;!", 2, 4);
        c.read("law x;wax 0;", 1, 4);
        c.read("first 0;wax 12345;", 3, 6);
        c.read(TWO + "knows 1 1;first 9;", 4, TWO.length() + 8);
        c.read(TWO + "knows 1 1 weight 0;", 4, TWO.length() + 8);
        c.read(TWO + "knows 1 9 weight 0;", 3, TWO.length() + 8);
        c.read("letter 1 100 13;", 2, 9);
        c.read("letter 1 1 13 prize 12345;", 2, 11);
        c.read("letter 1 1 1 prize 9 pays;", 1, 25);
        c.read("wax 5;wax 5;law;", 5, 6);
        c.read("person luck 1001 5;", 2, 12);
        c.read("person sends 5;person luck 1001;", 1, 13);
    }

    /** "of 'knows' a second one that is the first, or that the first KNOWS already" */
    private static void knowsTwice() {
        c.read(TWO + "knows 0 1;knows 1 0;", 0, NONE);
        c.read(TWO + "knows 0 1;knows 0 1;", 4, TWO.length() + 18);
        c.read(TWO + "knows 0 1;knows 0 01;", 4, TWO.length() + 18);
        c.read(TWO + "knows 0 1;knows 1 0;knows 1 0 weight 2;", 4, TWO.length() + 28);
        String eight = Check.people(8, "sends");
        for (int p = 0; p < 8; p++) {
            c.read(eight + "knows " + p + " " + p + ";", 4, eight.length() + 8);
            int q = (p + 1) % 8;
            String once = eight + "knows " + p + " " + q + ";";
            c.read(once + "knows " + p + " " + q + " weight 9;", 4, once.length() + 8);
            c.read(once + "knows " + q + " " + p + ";", 0, NONE);
        }
    }

    /** "a LINE (but 'person', 'knows') that was told already" */
    private static void toldTwice() {
        String[] lines = {"letter 1 1 1;", "law once;", "wax 1;", "first 0;"};
        for (String line : lines) {
            c.read(TWO + line + line, 5, (TWO + line).length());
            c.read(TWO + line + "person sends;" + line, 5, (TWO + line).length() + 13);
            LetterTown x = c.town(TWO + line);
            c.due("in another TEXT", Check.tell(x, TWO + line), 0);
            c.due("in a TEXT with a FAULT", Check.tell(x, TWO + line + "!"), 1);
            c.due("behind that", Check.tell(x, TWO + line), 0);
        }
        c.read(TWO + lines[0] + lines[1] + lines[2] + lines[3], 0, NONE);
        c.read(TWO + lines[3] + lines[2] + lines[1] + lines[0], 0, NONE);
    }

    /** "of each number the highest first": a byte at each of the twenty places is seen there. */
    private static void placesOfBytes() {
        for (int at = 0; at < 20; at++) {
            for (int b : new int[] {'!', 128, 255}) {
                int[] a = {0x20202020, 0x20202020, 0x20202020, 0x20202020, 0x20202020};
                a[at / 4] ^= (b ^ 32) << 24 - 8 * (at % 4);
                LetterTown x = new LetterTown();
                c.due("feed", x.feed(a[0], a[1], a[2], a[3], a[4]), 20);
                c.due("byte " + b + " at " + at, x.town(20), 1);
                c.due("byte " + b + " at " + at, x.fault(), at);
            }
        }
        LetterTown x = new LetterTown();
        // "person" of the first number and the second, "sends;" behind them
        c.due("feed", x.feed(0x70657273, 0x6f6e2073, 0x656e6473, 0x3b202020, 0x20202020), 20);
        c.due("town", x.town(13), 0);
        c.due("people", x.count(0), 1);
    }

    private static LetterTown fed(int twenties) {
        LetterTown x = new LetterTown();
        for (int i = 1; i <= twenties; i++) {
            c.due("feed", x.feed(0x20202020, 0x20202020, 0x20202020, 0x20202020, 0x20202020), 20 * i);
        }
        return x;
    }

    /** "NONE, and none come, if it would have more than 700" */
    private static void fullTape() {
        LetterTown x = fed(34);
        c.due("700", x.feed(0x20202020, 0x20202020, 0x20202020, 0x20202020, 0x20202021), 700);
        c.due("720", x.feed(0x21202020, 0x20202020, 0x20202020, 0x20202020, 0x20202020), NONE);
        c.due("720", x.feed(0, 0, 0, 0, 0), NONE);
        c.due("none come", x.count(9), 700);
        c.thrown("701", Check.IAE, () -> x.town(701));
        c.due("the last byte", x.town(700), 1);
        c.due("its place", x.fault(), 699);
        LetterTown y = fed(35);
        c.due("none came", y.feed(0x21212121, 0, 0, 0, 0), NONE);
        c.due("700 blanks", y.town(700), 0);
        c.due("empty", y.count(9), 0);
        c.due("room again", y.feed(0, 0, 0, 0, 0), 20);
        LetterTown z = fed(34);
        z.feed(0x20202020, 0x20202020, 0x20202020, 0x20776178, 0x2037373b);
        c.due("a LINE to the last byte", z.town(700), 0);
        c.due("wax", z.count(7), 77);
        LetterTown w = fed(34);
        w.feed(0x20202020, 0x20202020, 0x20202020, 0x20202077, 0x61782037);
        c.due("ends too soon", w.town(700), 1);
        c.due("at 700", w.fault(), 700);
    }

    /** "The tape's first n bytes (it is empty then)", "the tape has not so many, n below 0" */
    private static void firstBytes() {
        LetterTown x = new LetterTown();
        c.due("0 of none", x.town(0), 0);
        c.thrown("1 of none", Check.IAE, () -> x.town(1));
        Check.feed(x, "wax 7;    wax 8;    x");
        c.due("fed", x.count(9), 40);
        for (int n : new int[] {-1, Integer.MIN_VALUE, 41, 700, Integer.MAX_VALUE}) {
            c.thrown("town " + n, Check.IAE, () -> x.town(n));
            c.due("the tape stays", x.count(9), 40);
            c.due("no FAULT", x.fault(), NONE);
            c.due("not refused", x.count(13), 0);
        }
        c.due("6 of 40", x.town(6), 0);
        c.due("wax", x.count(7), 7);
        c.due("all are gone", x.count(9), 0);
        c.thrown("one of those behind", Check.IAE, () -> x.town(1));
        Check.feed(x, "wax     8;");
        c.due("3 of 20", x.town(3), 1);
        c.due("ends at 3, with blanks behind it", x.fault(), 3);
        c.due("all are gone", x.count(9), 0);
        Check.feed(x, "wax 89;");
        c.due("5 of 20", x.town(5), 1);
        c.due("ends at 5, with a digit behind it", x.fault(), 5);
        Check.feed(x, "wax 8;");
        c.due("none of 20", x.town(0), 0);
        c.due("none of 20: empty", x.count(9), 0);
        c.due("none of 20: wax as at first", x.count(7), 1);
        Check.feed(x, "wax 6;              ");
        c.due("20 of 20", x.town(20), 0);
        c.due("20 of 20: wax", x.count(7), 6);
    }

    /** "are a TOWN, all anew": nothing of the town ahead is left in it. */
    private static void allAnew() {
        LetterTown x = c.town("person opens 9;person luck 8;person best name 7;knows 0 1 weight 6;knows 1 2;knows 2 0 weight 99;"
            + "letter 5 4 3 prize 2 pays 1;law back;wax 9;first 2;");
        c.due("anew", Check.tell(x, "person sends;person best;person sends;knows 0 2;"), 0);
        int[] due = {3, 1, 1, 8, 0, 0, 0, 1, 0};
        for (int i = 0; i < due.length; i++) {
            c.due("anew " + i, x.count(i), due[i]);
        }
        for (int p = 0; p < 3; p++) {
            c.due("SORT", x.person(p, 0), p == 1 ? 3 : 1);
            c.due("N", x.person(p, 1), 0);
            c.due("KNOWS", x.person(p, 2), p == 0 ? 4 : 0);
            for (int q = 0; q < 3; q++) {
                c.due("WEIGHT " + p + " " + q, x.weight(p, q), p == 0 && q == 2 ? 1 : 0);
            }
        }
        c.due("a FAULT", Check.tell(x, "person opens 3;wax 5;first 0;wax 5;"), 5);
        c.due("its place", x.fault(), 29);
        c.due("all stays: people", x.count(0), 3);
        c.due("all stays: wax", x.count(7), 1);
        c.due("another FAULT", Check.tell(x, "!"), 1);
        c.due("the latest one's place", x.fault(), 0);
        c.due("none", Check.tell(x, "person sends;"), 0);
        c.due("none's place", x.fault(), NONE);
        c.due("STATUS stays", x.count(13), 2);
        c.thrown("PERSON 1 is gone", Check.NSE, () -> x.person(1, 0));
    }

    /** "NoSuchElementException: another what", "no such PERSON (as everywhere)" */
    private static void answers() {
        String eight = Check.people(8, "luck 1000");
        LetterTown x = c.town(eight + "knows 7 6 weight 99;");
        c.due("the last PERSON's SORT", x.person(7, 0), 2);
        c.due("the last PERSON's N", x.person(7, 1), 1000);
        c.due("the last PERSON KNOWS", x.person(7, 2), 64);
        c.due("the last WEIGHT", x.weight(7, 6), 99);
        c.due("he doesn't know him", x.weight(6, 7), 0);
        c.due("he doesn't know himself", x.weight(7, 7), 0);
        c.due("the last count", x.count(15), 0);
        for (int far : new int[] {-1, 8, 9, Integer.MIN_VALUE, Integer.MAX_VALUE}) {
            c.thrown("person " + far, Check.NSE, () -> x.person(far, 0));
            c.thrown("person what " + (far == 8 || far == 9 ? far - 5 : far), Check.NSE,
                () -> x.person(0, far == 8 || far == 9 ? far - 5 : far));
            c.thrown("weight of " + far, Check.NSE, () -> x.weight(far, 0));
            c.thrown("weight to " + far, Check.NSE, () -> x.weight(0, far));
            c.thrown("count " + (far == 8 || far == 9 ? far + 8 : far), Check.NSE,
                () -> x.count(far == 8 || far == 9 ? far + 8 : far));
        }
        LetterTown none = new LetterTown();
        c.thrown("person of none", Check.NSE, () -> none.person(0, 0));
        c.thrown("weight of none", Check.NSE, () -> none.weight(0, 0));
    }
}
