/** Promises 23 to 32: TWO letters, FEELING, THEFT, LUCK, WEEKS and their image. */
public final class RestTest {
    private static final Check c = new Check();
    private static final int NONE = LetterTown.NONE;
    private static final int ALL = 1000000000;

    public static void main(String[] args) {
        two();
        twoSpent();
        theft();
        thieves();
        luck();
        begin();
        draws();
        out();
        onBounds();
        image();
        c.end();
    }

    private static void two() {
        String fan = "person sends;person sends;person sends;knows 0 1;knows 0 2;knows 1 0;knows 1 2;letter 1 1 2;";
        LetterTown x = c.town(fan);
        c.due("who opened the first is left out", x.two(0, 0), ALL);
        c.due("none, if it would begin with him", x.two(0, 1), 500000000);
        c.due("he never comes to the END", x.two(0, 2), 0);
        c.due("the first doesn't", x.two(2, 0), 0);
        c.due("first stays", x.count(8), 0);
        x = c.town("person sends;person sends;knows 0 1;letter 1 1 2;");
        c.due("nobody is left", x.two(0, 0), 0);
        x = c.town("person sends;person sends;letter 1 1 1;");
        c.due("one hand", x.two(0, 1), ALL);
        c.due("one hand, the same", x.two(0, 0), 0);
        x = c.town("person sends;person luck 333;person sends;person sends;knows 0 1;knows 0 2;knows 0 3;knows 1 2;knows 3 2;letter 1 1 3;law back;");
        // opened at its END by 2: 222333334 by 1, 333333334 by 3; then 3 alone sends it on, but not to 2
        c.due("all by 2, who is left out", x.two(0, 0), 0);
        c.thrown("person", Check.NSE, () -> c.town(fan).two(3, 0));
        c.thrown("person", Check.NSE, () -> c.town(fan).two(0, -1));
        c.thrown("of none", Check.NSE, () -> new LetterTown().two(0, 0));
        LetterTown y = c.town("person sends;person sends;person sends;person luck 333;knows 0 1;knows 0 2;knows 0 3;knows 3 1;letter 1 1 2;");
        // 333333333, 333333333, 333333334 open it; begun with 3: by 1 left out nothing, else 667000000
        c.due("each cut down", y.two(0, 3), 333333333L * 667000000 / ALL);
    }

    private static void twoSpent() {
        String six = Check.people(7, "sends") + Check.knows(30, 29, 43, 39, 14, 31) + "letter 1 1 12 pays 1;law back;";
        LetterTown x = c.town(six);
        c.thrown("the first", Check.IAE, () -> x.two(0, 6));
        c.due("the other isn't asked", x.two(6, 0), 0);
        LetterTown y = c.town(Check.people(8, "sends") + Check.knows(30, 29, 43, 39, 14, 31, 128, 64) + "letter 1 1 12 pays 1;law back;");
        c.thrown("the other is asked", Check.IAE, () -> y.two(6, 0));
        c.due("left out by himself", y.two(6, 7), 0);
        c.thrown("person is ahead", Check.NSE, () -> y.two(0, 8));
    }

    private static void theft() {
        LetterTown x = c.town(Check.people(3, "sends"));
        c.thrown("bits", Check.IAE, () -> x.theft(8, 0));
        c.thrown("bits ahead of pennies", Check.IAE, () -> x.theft(-1, 9));
        c.thrown("highest bit", Check.IAE, () -> x.theft(Integer.MIN_VALUE, 0));
        c.due("few -1", x.theft(1, -1), NONE);
        c.due("few 9", x.theft(1, 9), NONE);
        c.due("refused", x.count(15), 2);
        for (int i = 1; i <= 30; i++) {
            c.due("theft", x.theft(0, 0), i);
        }
        c.due("the 31st", x.theft(0, 0), NONE);
        c.due("refused", x.count(15), 3);
        c.due("letters", x.count(12), 30);
        LetterTown y = new LetterTown();
        c.due("of nobody", y.theft(0, 0), 1);
        c.due("8 of nobody", y.theft(0, 8), 2);
        c.thrown("of nobody", Check.IAE, () -> y.theft(1, 0));
        c.due("no set", y.thieves(2), 0);
    }

    private static void thieves(LetterTown x, int... due) {
        for (int i = 0; i < 5; i++) {
            c.due("thieves " + i, x.thieves(i), due[i]);
        }
    }

    private static void thieves() {
        LetterTown x = c.town(Check.people(4, "sends"));
        thieves(x, 0, 15, 16, 0, 0);
        x.theft(7, 2);
        // {0,1} {0,2} {1,2}, each with and without 3
        thieves(x, 0, 15, 6, 3, 3);
        x.theft(9, 1);
        // {0,1} {0,2} {1,2,3}
        thieves(x, 0, 15, 3, 3, 0);
        x.theft(8, 1);
        thieves(x, 14, 14, 1, 14, 0);
        x.theft(15, 4);
        thieves(x, 0, 0, 0, NONE, NONE);
        c.thrown("thieves 5", Check.NSE, () -> x.thieves(5));
        c.thrown("thieves -1", Check.NSE, () -> x.thieves(-1));
        thieves(new LetterTown(), 0, 0, 1, 0, NONE);
        LetterTown y = c.town(Check.people(8, "sends"));
        y.theft(255, 8);
        thieves(y, 255, 255, 1, 255, 0);
        LetterTown w = c.town(Check.people(3, "sends"));
        w.theft(5, 1);
        w.theft(6, 1);
        // {0,1} {2}
        thieves(w, 0, 7, 2, 4, 0);
        LetterTown z = c.town(Check.people(3, "sends"));
        z.theft(6, 1);
        z.theft(1, 1);
        thieves(z, 1, 7, 2, 3, 1);
    }

    private static void luck() {
        LetterTown x = new LetterTown();
        c.due("none of none", x.luck(0, 0, 0), ALL);
        c.due("three of three", x.luck(3, 3, 333), 36926037);
        c.due("two of three", x.luck(3, 2, 333), 36926037 + (110889000L * 667 + 444222000L * 333) / 1000);
        c.due("all surely", x.luck(30, 30, 1000), ALL);
        c.due("none surely", x.luck(30, 1, 0), 0);
        c.due("once by luck", x.luck(1, 1, 1), 1000000);
        c.due("again, the rows being clean", x.luck(2, 2, 500), 250000000);
        c.thrown("n -1", Check.IAE, () -> x.luck(-1, 0, 5));
        c.thrown("n 31", Check.IAE, () -> x.luck(31, 0, 5));
        c.thrown("k -1", Check.IAE, () -> x.luck(3, -1, 5));
        c.thrown("k above n", Check.IAE, () -> x.luck(3, 4, 5));
        c.thrown("chance -1", Check.IAE, () -> x.luck(3, 1, -1));
        c.thrown("chance 1001", Check.IAE, () -> x.luck(3, 1, 1001));
    }

    private static void begin() {
        LetterTown x = c.town("person sends;");
        c.thrown("out -1", Check.IAE, () -> { x.begin(1, -1); return 0; });
        c.thrown("out 21", Check.IAE, () -> { x.begin(1, 21); return 0; });
        c.due("none has begun", x.on(0), NONE);
        x.begin(1, 20);
        c.due("on 3", x.on(3), 3);
        c.due("out", x.week(1, 0), NONE);
        c.thrown("out -1", Check.IAE, () -> { x.begin(1, -1); return 0; });
        c.due("they stay", x.on(0), 3);
        x.begin(1, 0);
        c.due("in place of others", x.on(0), 0);
        c.thrown("none has been", Check.NSE, () -> x.week(0, 0));
        c.due("nobody is out", x.on(1), 1);
        c.due("nobody is out", x.week(0, 0), 0);
        c.thrown("no people", Check.IAE, () -> { new LetterTown().begin(1, 1); return 0; });
    }

    private static int firstWeek(String text, int seed) {
        LetterTown x = c.town(text);
        x.begin(seed, 0);
        c.due("on 1", x.on(1), 1);
        return x.week(0, 0) * 10 + x.week(0, 1);
    }

    // By the seed 1 the bits are 16838, 5758, 10113.
    private static void draws() {
        String fan = "person sends;person sends;knows 0 1;knows 0 2 weight 2;letter 1 1 5;";
        c.due("838 is below 839", firstWeek("person luck 839;person sends;" + fan, 1), 1);
        c.due("838 isn't below 838, then 5758 mod 3 is 1", firstWeek("person luck 838;person sends;" + fan, 1), 22);
        c.due("no draw of 1000: 16838 mod 3 is 2", firstWeek("person sends;person sends;" + fan, 1), 22);
        c.due("16838 mod 4 is 2, below 3", firstWeek("person sends;person sends;person sends;knows 0 1 weight 3;knows 0 2;letter 1 1 5;", 1), 12);
        String line = ";person sends;knows 0 1;knows 1 2;letter 1 1 5;";
        c.due("a draw of one weight: then 758 is below 759", firstWeek("person sends;person luck 759" + line, 1), 12);
        c.due("a draw of one weight: then 758 isn't below 758", firstWeek("person sends;person luck 758" + line, 1), 23);
        c.due("no draw for who is best: 838", firstWeek("person best name 99;person luck 839" + line, 1), 12);
        c.due("no draw for who is best: 838", firstWeek("person best name 99;person luck 838" + line, 1), 23);
        c.due("no draw for who may send to nobody", firstWeek("person luck 0;", 1), 1);
        // -5 times 1103515245 and 12345 is -1222596584, whose bits 16 to 30 are 14112
        c.due("a seed below 0: 112", firstWeek("person luck 112;person sends;knows 0 1;", -5), 12);
        c.due("a seed below 0: 112", firstWeek("person luck 113;person sends;knows 0 1;", -5), 1);
    }

    private static void weeks(LetterTown x, int... due) {
        c.due("on", x.on(due.length), due.length);
        for (int i = 0; i < due.length; i++) {
            int opener = x.week(i, 0);
            c.due("week " + i, opener < 0 ? NONE : opener * 10 + x.week(i, 1), due[i]);
            if (opener < 0) {
                c.due("no hand", x.week(i, 1), 0);
                c.due("no pence", x.week(i, 2), 0);
            }
        }
    }

    private static void out() {
        LetterTown x = c.town("person sends;person sends;person sends;knows 0 1;knows 1 2;letter 4 3 4;");
        x.begin(7, 2);
        weeks(x, 23, 12, 1, NONE, NONE, 23, 12);
        c.due("pence", x.week(0, 2), 10);
        c.due("pence", x.week(1, 2), 7);
        c.due("pence", x.week(2, 2), 4);
        c.thrown("week 7", Check.NSE, () -> x.week(7, 0));
        c.thrown("week -1", Check.NSE, () -> x.week(-1, 0));
        c.thrown("what 3", Check.NSE, () -> x.week(0, 3));
        c.thrown("what -1", Check.NSE, () -> x.week(0, -1));
        LetterTown y = c.town("person sends;person sends;person sends;knows 0 1;knows 1 2;letter 4 3 3;");
        y.begin(7, 2);
        weeks(y, 23, 23, 23);
        // 0 takes 1 for the best (of like ones the least); 1 is out behind week 0, and so 0 opens it, and is out
        LetterTown z = c.town("person best;person opens 0;person sends;knows 0 1;knows 0 2;knows 1 0;knows 2 0;letter 0 0 3 prize 1;law once;");
        z.begin(7, 1);
        weeks(z, 1, NONE, 1);
        LetterTown w = c.town("person best name 5;person opens 0;person sends;knows 0 1;knows 0 2;knows 1 0;knows 2 0;letter 0 0 3 prize 1;law once;");
        w.begin(7, 1);
        weeks(w, 12, 1, NONE, 12);
    }

    private static void onBounds() {
        LetterTown x = c.town("person sends;person sends;knows 0 1;letter 1 1 2;");
        c.thrown("on -1 ahead of NONE", Check.IAE, () -> x.on(-1));
        c.thrown("on 61 ahead of NONE", Check.IAE, () -> x.on(61));
        c.due("none has begun", x.on(60), NONE);
        x.begin(1, 1);
        c.due("60", x.on(60), 60);
        c.due("101", x.on(41), NONE);
        c.due("100", x.on(40), 100);
        c.due("101", x.on(1), NONE);
        c.due("still 100", x.on(0), 100);
        c.due("the last", x.week(99, 1), 2);
        c.thrown("week 100", Check.NSE, () -> x.week(100, 0));
        LetterTown y = c.town(Check.spent("sends"));
        c.due("NONE ahead of SPENT", y.on(0), NONE);
        y.begin(1, 1);
        c.thrown("SPENT", Check.IAE, () -> y.on(0));
        c.thrown("SPENT", Check.IAE, () -> y.on(5));
        c.due("image of none that have been", y.image(), true);
        LetterTown z = c.town(Check.full("sends"));
        z.begin(3, 1);
        c.due("20,000 HANDS", z.on(60), 60);
        c.due("to its END", z.week(59, 1), 12);
    }

    private static void image() {
        LetterTown x = c.town("person luck 300;person luck 300;person luck 300;knows 0 1;knows 0 2;knows 1 2;knows 1 0;knows 2 1;knows 2 0;letter 1 1 6;law back;");
        c.due("none", x.image(), false);
        x.begin(11, 1);
        c.due("none to restore", x.restore(), false);
        x.on(20);
        c.due("image", x.image(), true);
        x.on(30);
        int[] seen = new int[90];
        for (int i = 0; i < 30; i++) {
            for (int j = 0; j < 3; j++) seen[3 * i + j] = x.week(20 + i, j);
        }
        x.begin(5, 3);
        x.on(7);
        c.due("restore", x.restore(), true);
        c.due("as it was", x.on(0), 20);
        c.thrown("what came behind is gone", Check.NSE, () -> x.week(20, 0));
        x.on(30);
        for (int i = 0; i < 30; i++) {
            for (int j = 0; j < 3; j++) c.due("again", x.week(20 + i, j), seen[3 * i + j]);
        }
        c.due("the image stays", x.restore(), true);
        c.due("as it was", x.on(0), 20);
        x.begin(1, 1);
        c.due("another image", x.image(), true);
        x.on(3);
        c.due("restore it", x.restore(), true);
        c.due("of no weeks", x.on(0), 0);
        Check.tell(x, "person;");
        c.due("a FAULT leaves it", x.restore(), true);
    }
}
