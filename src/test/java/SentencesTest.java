/**
 * The document read once more from its first line: sentences that a class could break, and still answer
 * all that the other tests have worked by hand. Each stands over its test.
 */
public final class SentencesTest {
    private static final Check c = new Check();
    private static final int NONE = LetterTown.NONE;
    private static final int ALL = 1000000000;

    public static void main(String[] args) {
        spentWhateverIsDone();
        penceAreNotFelt();
        luckCutDown();
        endsCutDown();
        nameCountsOnce();
        nameByTheBestOne();
        oddsCutDown();
        endsOfTheOther();
        otherIsNotAsked();
        drawsWhereNoneIsIn();
        penceOfWeeks();
        imageOfNoWeeks();
        byWax();
        byPrize();
        byPays();
        byLaw();
        byStartAndPenny();
        byFirst();
        bySortAndWeight();
        c.end();
    }

    private static void credits(String what, LetterTown x, int one, int other) {
        c.due(what + ": CREDIT of GUESS 0", x.credit(0), one);
        c.due(what + ": CREDIT of GUESS 1", x.credit(1), other);
    }

    private static void opened(String what, LetterTown x, int person, int hand) {
        c.due(what + ": OPENED", x.opened(person, hand), ALL);
        c.due(what + ": GOES", x.goes(1), (long) hand * ALL);
        c.due(what + ": END", x.goes(0), hand == x.count(3) ? ALL : 0);
        c.due(what + ": FEELING", x.feeling(x.count(7)), (long) hand * ALL);
        x.begin(1, 0);
        c.due(what + ": on", x.on(1), 1);
        c.due(what + ": the week's", x.week(0, 0), person);
        c.due(what + ": the week's hand", x.week(0, 1), hand);
    }

    private static void row(LetterTown x, int... people) {
        for (int i = 0; i < people.length; i++) {
            c.due("hand " + people[i], x.hand(people[i]), i + 1);
        }
    }

    private static int odds(LetterTown x, int... people) {
        row(x, people);
        int odds = x.odds();
        x.ended();
        return odds;
    }

    private static void chain(String what, LetterTown x, int law, int chance, int... people) {
        c.due(what + ": THE CHAIN", x.chain(law), chance);
        for (int i = 0; i < people.length; i++) {
            c.due(what + ": THE CHAIN's hand " + i, x.chained(i), people[i]);
        }
    }

    /** "more than 20,000 HANDS that can be come to (by those it MAY be sent to, whatever is done)": of each SORT. */
    private static void spentWhateverIsDone() {
        String[] sorts = {"opens 0", "opens 9999", "sends", "luck 0", "luck 1000", "best", "best name 9999"};
        int[] hand = {1, 12, 12, 12, 1, 1, 12};
        for (int i = 0; i < sorts.length; i++) {
            LetterTown x = c.town(Check.spent(sorts[i]));
            c.thrown(sorts[i] + ": 20,001 HANDS", Check.IAE, () -> x.goes(1));
            c.due(sorts[i] + ": 20,000 HANDS", c.town(Check.full(sorts[i])).goes(1), (long) hand[i] * ALL);
        }
    }

    /** "if it is opened, he who has it gets 1000 by PENCE": by PENCE, not by what is FELT; so also as is BEST. */
    private static void penceAreNotFelt() {
        String two = "person best;person sends;knows 0 1;letter 5 0 2 pays %d;wax 3;";
        LetterTown x = c.town(String.format(two, 5));
        c.due("5 by opening it, 5 by sending it", x.gets(0), 5000);
        c.due("he opens it", x.opened(0, 1), ALL);
        c.due("PAYS 6: he sends it", c.town(String.format(two, 6)).opened(1, 2), ALL);
        c.due("who has it at its END", c.town(String.format(two, 6)).gets(1), 5000);
    }

    /** "opened by N and sent by (1000 less N), together, by 1000, cut down (towards less)", behind "by all WEIGHTS, cut down" */
    private static void luckCutDown() {
        // 1 pays a PENNY by a third: 334 thousandths; of these 499 by 1000 are 166.666
        LetterTown x = c.town("person sends;person sends;person sends;person luck 501;knows 0 1;knows 0 2 weight 2;knows 1 0;knows 3 0;"
            + "letter 0 1 4;law back;first 3;");
        c.due("-166.666", x.gets(1), -167);
        // a penny by a third: 333 thousandths; of these 999 by 1000 are 332.667
        LetterTown y = c.town("person luck 1;person sends;person sends;person sends;knows 0 1;knows 0 2;knows 0 3;letter 0 1 2;");
        for (int p = 1; p < 4; p++) {
            c.due("cut down twice", y.gets(p), 332);
        }
        c.due("what he pays", y.gets(0), -999);
    }

    /** "ENDS likewise": by all WEIGHTS, cut down; then by (1000 less N) by 1000, cut down. */
    private static void endsCutDown() {
        // the first letter comes to its END by 7; the other by 0 1 4 alone: a third, and 999 by 1000 of that
        LetterTown x = c.town("person luck 1;" + Check.people(7, "sends") + "knows 0 1;knows 0 2;knows 0 3;knows 1 4;knows 5 6;knows 6 7;letter 0 0 3;");
        c.due("332999999.667", x.two(5, 0), 332999999);
    }

    /** "for each time that he has sent it ahead, 1000 by PAYS ..; and 1000 by his NAME": that once. */
    private static void nameCountsOnce() {
        String town = "person best name %d;person sends;knows 0 1;knows 1 0;letter 3 1 4 pays 1;law back;";
        // at hand 3 by opening it 5; by sending it 1 and 1 (he sent it once ahead), a PENNY less, and the NAME
        LetterTown like = c.town(String.format(town, 4));
        c.due("4 and 2 less 1 is like 5", like.opened(0, 3), ALL);
        c.due("gets 5 less a PENNY", like.gets(0), 4000);
        LetterTown more = c.town(String.format(town, 5));
        c.due("5 and 2 less 1 is more", more.goes(0), ALL);
        c.due("the NAME is no penny: twice PAYS, twice a PENNY less", more.gets(0), 0);
        c.due("who has it at its END, and was paid once", more.gets(1), 6000);
    }

    /** "He sends it .. of some one": a NAME's worth is by the one to whom it is most. */
    private static void nameByTheBestOne() {
        LetterTown x = c.town("person sends;person opens 0;person sends;person sends;knows 0 1;knows 0 2;knows 2 3;letter 2 0 3 pays 9;");
        c.due("by 1 alone it were 3, by 2 he is paid", x.named(0), 0);
    }

    /** "what is sent of it (.. cut down ..), then by the WEIGHT of the next one by WEIGHTS .., cut down" */
    private static void oddsCutDown() {
        LetterTown x = c.town("person sends;person luck 500;" + Check.people(4, "sends")
            + "knows 0 1;knows 0 2;knows 0 3;knows 1 4 weight 2;knows 1 5;letter 0 0 3;");
        // a third is 333333333, half of it 166666666, two thirds of that 111111110.667
        c.due("ODDS", odds(x, 0, 1, 4), 111111110);
        c.due("ODDS", odds(x, 0, 1, 5), 55555555);
        c.due("ODDS", odds(x, 0, 1), 166666666);
        // of CASES what isn't opened is all the rest, 166666667, and the last one has what is left
        c.due("CASES", x.opened(4, 3), 111111111);
        c.due("CASES", x.opened(5, 3), 55555556);
        chain("as ODDS go", x, 0, 111111110, 0, 1, 4);
    }

    /** "that by ENDS of the other, by 1,000,000,000, cut down": ENDS, not the CASES of its END. */
    private static void endsOfTheOther() {
        LetterTown x = c.town("person sends;person luck 1;person luck 1;person luck 1;" + Check.people(4, "sends")
            + "knows 0 1;knows 0 2;knows 0 3;knows 1 4;knows 2 4;knows 3 4;knows 5 6;knows 6 7;letter 0 0 3;");
        // by CASES 333000000, 333000000 and 333000001
        c.due("999 by 1000", x.two(5, 0), 999000000);
        LetterTown y = c.town("person sends;person luck 1;person luck 1;person luck 1;person sends;"
            + "knows 0 1;knows 0 2;knows 0 3;knows 1 4;knows 2 4;knows 3 4;letter 0 0 3;");
        c.due("END by CASES", y.goes(0), 999000001);
    }

    /** "if it would begin with him, there is none": so it isn't asked whether that one is SPENT. */
    private static void otherIsNotAsked() {
        // Begun by 2 there are 17963 HANDS; begun by 0, and 0 left out of it, more than 20,000. 2, 3 and 1 send it
        // round, as 4 to 7 open it ahead of its END, till 3 has it at hand 11 and takes 0 of like ones.
        LetterTown x = c.town("person sends;person best name 9;person sends;person best name 9;" + Check.people(4, "opens 0")
            + Check.knows(144, 52, 8, 3, 238, 222, 182, 126) + "letter 0 0 12 pays 1;law back;first 2;");
        c.due("by 0 at its END", x.opened(0, 12), ALL);
        c.due("it would begin with 0", x.two(2, 0), 0);
        c.thrown("SPENT, begun by 0", Check.IAE, () -> x.two(0, 2));
    }

    /** "a DRAW of 1000" of who MAY send it, though all are out; "if there is none, he opens it, without a DRAW of WEIGHTS" */
    private static void drawsWhereNoneIsIn() {
        // By the seed 1 the bits 16 to 30 are 16838, 5758, 10113, 17515, 31051: in week 0 a DRAW of 1000 (838) and one
        // of a WEIGHT; in week 1, 1 being out, a DRAW of 1000 (113) alone; in week 3 a DRAW of 1000 is 515.
        for (int luck : new int[] {100, 113, 114, 300, 515}) {
            LetterTown x = c.town("person luck " + luck + ";person opens 0;person sends;knows 0 1;knows 1 2;letter 0 0 4;");
            x.begin(1, 1);
            c.due("on", x.on(4), 4);
            int[] who = {1, 0, NONE, 1};
            int[] hand = {2, 1, 0, 2};
            for (int week = 0; week < 4; week++) {
                c.due("luck " + luck + ", week " + week, x.week(week, 0), who[week]);
                c.due("luck " + luck + ", hand in week " + week, x.week(week, 1), hand[week]);
            }
        }
        LetterTown y = c.town("person luck 516;person opens 0;person sends;knows 0 1;knows 1 2;letter 0 0 4;");
        y.begin(1, 1);
        c.due("on", y.on(4), 4);
        c.due("515 is below 516", y.week(3, 0), 0);
    }

    /** "PENCE then (2; 0)": neither what is FELT nor the PRIZE. */
    private static void penceOfWeeks() {
        LetterTown x = c.town("person sends;person sends;knows 0 1;letter 7 3 2 prize 50;wax 4;");
        x.begin(1, 0);
        c.due("on", x.on(1), 1);
        c.due("at its END", x.week(0, 1), 2);
        c.due("PENCE", x.week(0, 2), 10);
    }

    /** "WEEKS (the seed, ..) are kept as an image": of no weeks, too. */
    private static void imageOfNoWeeks() {
        LetterTown x = c.town("person luck 800;person sends;knows 0 1;letter 0 0 2;");
        x.begin(1, 0);
        c.due("image", x.image(), true);
        for (int i = 0; i < 3; i++) {
            // 838 isn't below 800; then, a DRAW of a WEIGHT being between, 113 is
            c.due("on", x.on(2), 2);
            c.due("week 0", x.week(0, 0), 1);
            c.due("week 1", x.week(1, 0), 0);
            x.begin(99 + i, 20);
            c.due("restore", x.restore(), true);
            c.due("no weeks", x.on(0), 0);
        }
    }

    /** "FELT: PENCE less PENCE MOD WAX", wherever it is asked who opens: 0 opens at 3; of 3 pence 3 or 2 are FELT. */
    private static void byWax() {
        for (int wax = 1; wax <= 2; wax++) {
            boolean feels = wax == 1;
            String what = "WAX " + wax;
            LetterTown x = c.town("person opens 3;person sends;person sends;knows 0 1;knows 1 2;knows 2 0;letter 3 0 3 pays 5;wax " + wax + ";");
            opened(what, x, feels ? 0 : 2, feels ? 1 : 3);
            int[] gets = feels ? new int[] {3000, 0, 0} : new int[] {5000, 5000, 3000};
            for (int p = 0; p < 3; p++) {
                c.due(what + ": GETS of " + p, x.gets(p), gets[p]);
            }
            for (int law = 0; law < 3; law++) {
                chain(what, x, law, feels ? NONE : ALL);
            }
            // 2 were FIRST: 0 opens it at hand 2, or 2 is paid 5
            c.due(what + ": NAME of 2", x.named(2), feels ? 4 : 0);
            c.due(what + ": ODDS", odds(x, 0), feels ? ALL : 0);
            c.due(what + ": ODDS", odds(x, 0, 1, 2), feels ? 0 : ALL);
            c.due(what + ": ONE's BEST of 2", x.one(2, 0, 1, 1), feels ? 0 : 3000);
            LetterTown y = c.town("person opens 3;person sends;person sends;knows 0 1;knows 1 2;letter 3 0 3;wax " + wax + ";");
            y.guess(0, 1, 1, 0);
            y.guess(1, 1, 0, 0);
            row(y, 0, 1, 2);
            y.ended();
            credits(what, y, feels ? 500000 : 999999, feels ? 500000 : 0);
            LetterTown z = c.town("person opens 3;person sends;person sends;person sends;knows 0 1;knows 2 3;letter 3 0 2;wax " + wax + ";");
            c.due(what + ": TWO letters", z.two(0, 2), feels ? 0 : ALL);
        }
    }

    /** "1000 by PRIZE at hand HANDS", wherever it is asked what is BEST: 0 waits for it at hand 3. */
    private static void byPrize() {
        for (int prize = 0; prize <= 1; prize++) {
            boolean waits = prize == 1;
            String what = "PRIZE " + prize;
            String text = "person best;person sends;person sends;person sends;knows 0 1;knows 1 0;knows 2 3;knows 3 2;letter 5 0 3 prize "
                + prize + ";law back;";
            LetterTown x = c.town(text);
            opened(what, x, 0, waits ? 3 : 1);
            c.due(what + ": GETS", x.gets(0), waits ? 6000 : 5000);
            chain(what, x, 2, waits ? ALL : NONE);
            c.due(what + ": TWO letters", x.two(0, 2), waits ? ALL : 0);
            c.due(what + ": NAME", x.named(0), waits ? 0 : 1);
            c.due(what + ": ODDS", odds(x, 0), waits ? 0 : ALL);
            c.due(what + ": ODDS", odds(x, 0, 1, 0), waits ? ALL : 0);
            c.due(what + ": ONE's BEST, opening it at 0 or 6", x.one(0, 6, 6, 1), waits ? 6000 : 5000);
            LetterTown y = c.town(text);
            y.guess(0, 1, 1, 0);
            y.guess(1, 1, 0, 0);
            row(y, 0, 1, 0);
            y.ended();
            credits(what, y, waits ? 999999 : 500000, waits ? 0 : 500000);
            // 1 sends by his NAME
            LetterTown z = c.town("person best;person best name 9;knows 0 1;knows 1 0;letter 5 0 3 prize " + prize + ";law back;");
            c.due(what + ": LEAST of PAYS", z.least(true, 0, 9, 1), waits ? 0 : 1);
            c.due(what + ": LEAST of PRIZE", z.least(false, 0, 9, 1), 1);
            c.due(what + ": ALL", z.all(1), waits ? 3 : 1);
        }
    }

    /** "he who sends gets, more, 1000 by PAYS by ENDS of that", wherever it is asked what is BEST. */
    private static void byPays() {
        for (int pays = 5; pays <= 6; pays++) {
            boolean sends = pays == 6;
            String what = "PAYS " + pays;
            LetterTown x = c.town("person best;person sends;person sends;person sends;knows 0 1;knows 2 3;letter 5 0 2 pays " + pays + ";");
            opened(what, x, sends ? 1 : 0, sends ? 2 : 1);
            c.due(what + ": GETS", x.gets(0), sends ? 6000 : 5000);
            c.due(what + ": GETS of 1", x.gets(1), sends ? 5000 : 0);
            chain(what, x, 0, sends ? ALL : NONE);
            c.due(what + ": TWO letters", x.two(0, 2), sends ? ALL : 0);
            c.due(what + ": NAME", x.named(2), sends ? 0 : 1);
            c.due(what + ": ALL, who", x.all(0), sends ? 1 : 0);
            c.due(what + ": LEAST of PRIZE", x.least(false, 0, 9, 1), sends ? 0 : NONE);
            c.due(what + ": LEAST of PAYS", x.least(true, 0, 9, 1), 6);
            c.due(what + ": ODDS", odds(x, 0, 1), sends ? ALL : 0);
            c.due(what + ": ONE's BEST", x.one(0, 6, 6, 1), sends ? 6000 : 5000);
            LetterTown y = c.town("person best;person sends;knows 0 1;letter 5 0 2 pays " + pays + ";");
            y.guess(0, 1, 1, 0);
            y.guess(1, 0, 0, 0);
            row(y, 0, 1);
            y.ended();
            credits(what, y, sends ? 999999 : 500000, sends ? 0 : 500000);
        }
    }

    private static final String LAWS = "person sends;person sends;person sends;knows 0 1;knows 1 0;knows 1 2;knows 2 0;letter 1 1 4 pays %d;law %s;";

    /** "with LAW 0 to those who haven't had it, with LAW 1 to those it didn't come from, with LAW 2 to any" */
    private static void byLaw() {
        // 0 1 2, who MAY send it to nobody
        LetterTown once = c.town(String.format(LAWS, 0, "once"));
        opened("once", once, 2, 3);
        gets("once", once, -1000, -1000, 3000);
        best("once", once, 0, 1000, 3000);
        worth("once", 0, 1, NONE, 3);
        credits("once", told("once"), 500000, 500000);
        // 0 1 2 0
        LetterTown again = c.town(String.format(LAWS, 0, "again"));
        opened("again", again, 0, 4);
        gets("again", again, 3000, -1000, -1000);
        best("again", again, 2, 3000, 3000);
        worth("again", 0, 4, 5, 0);
        credits("again", told("again"), 666666, 333333);
        // 0 1 0 1 and 0 1 2 0, each by a half
        LetterTown back = c.town(String.format(LAWS, 0, "back"));
        c.due("back: END by 0", back.opened(0, 4), ALL / 2);
        c.due("back: END by 1", back.opened(1, 4), ALL / 2);
        c.due("back: GOES", back.goes(1), 4L * ALL);
        c.due("back: FEELING", back.feeling(1), 4L * ALL);
        // of 0: two PENNIES less, or 4 less a PENNY; of 1: 4 less a PENNY, or a PENNY less; of 2: nothing, or a PENNY less
        gets("back", back, 500, 1000, -500);
        best("back", back, 2, 2500, 1500);
        worth("back", 1, 4, 3, 0);
        credits("back", told("back"), 666666, 333333);
        String pairs = Check.people(4, "sends") + "knows 0 1;knows 1 0;knows 2 3;knows 3 2;letter 0 0 3;law ";
        c.due("once: TWO letters", c.town(pairs + "once;").two(0, 2), 0);
        c.due("again: TWO letters", c.town(pairs + "again;").two(0, 2), 0);
        c.due("back: TWO letters", c.town(pairs + "back;").two(0, 2), ALL);
    }

    private static void gets(String law, LetterTown x, int... due) {
        for (int p = 0; p < due.length; p++) {
            c.due(law + ": GETS of " + p, x.gets(p), due[p]);
        }
    }

    /** ONE's BEST of 0, and what 2 GETS by his own. */
    private static void best(String law, LetterTown x, int n, int gets, int getsOfTwo) {
        c.due(law + ": ONE's BEST", x.one(0, 9, 1, 0), n);
        c.due(law + ": GETS then", x.one(0, 9, 1, 1), gets);
        c.due(law + ": 2 GETS by his own", x.one(2, 9, 1, 1), getsOfTwo);
    }

    /** By PAYS 9: who opens it where ALL reckon, and at which hand; the LEAST of PAYS; the NAME's worth to 0. */
    private static void worth(String law, int who, int hand, int least, int name) {
        LetterTown x = c.town(String.format(LAWS, 9, law));
        c.due(law + ": ALL, who", x.all(0), who);
        c.due(law + ": ALL, at", x.all(1), hand);
        c.due(law + ": LEAST of PAYS", x.least(true, 0, 9, 1), least);
        c.due(law + ": NAME", x.named(0), name);
    }

    /** GUESSES that 1 sends, or does by LUCK 500; the ROW 0 1 2 0. */
    private static LetterTown told(String law) {
        LetterTown x = c.town(String.format(LAWS, 0, law));
        x.guess(0, 1, 1, 0);
        x.guess(1, 1, 2, 500);
        row(x, 0, 1, 2, 0);
        x.ended();
        return x;
    }

    /** "PENCE: START and PENNY by (h less 1)": 1 opens at 2 pence, at hand 2. */
    private static void byStartAndPenny() {
        int[][] letters = {{1, 0}, {1, 1}, {2, 0}, {0, 1}, {0, 2}};
        for (int[] l : letters) {
            boolean opens = l[0] + l[1] >= 2;
            String what = "START " + l[0] + " PENNY " + l[1];
            String letter = "letter " + l[0] + " " + l[1] + " 3;";
            LetterTown x = c.town("person sends;person opens 2;" + Check.people(4, "sends") + "knows 0 1;knows 1 2;knows 3 4;knows 4 5;" + letter);
            c.due(what + ": TWO letters", x.two(0, 3), opens ? 0 : ALL);
            opened(what, x, opens ? 1 : 2, opens ? 2 : 3);
            c.due(what + ": GETS of the last one", x.gets(2), opens ? 0 : 1000 * (l[0] + 2 * l[1]));
            c.due(what + ": GETS of 1", x.gets(1), opens ? 1000 * (l[0] + l[1]) : -1000 * l[1]);
            c.due(what + ": ODDS", odds(x, 0, 1), opens ? ALL : 0);
            chain(what, x, 0, opens ? NONE : ALL);
            LetterTown y = c.town("person sends;person opens 2;person sends;knows 0 1;knows 1 2;" + letter);
            y.guess(0, 2, 1, 0);
            y.guess(1, 0, 2, 500);
            row(y, 0, 1, 2);
            y.ended();
            credits(what, y, opens ? 500000 : 666666, opens ? 500000 : 333333);
        }
    }

    /** "FIRST, who begins it": 0 to 1, 1 to 2. */
    private static void byFirst() {
        for (int first = 0; first < 3; first++) {
            String what = "FIRST " + first;
            int hand = 3 - first;
            LetterTown x = c.town("person sends;person sends;person sends;knows 0 1;knows 1 2;letter 1 1 3;first " + first + ";");
            opened(what, x, 2, hand);
            for (int p = 0; p < 3; p++) {
                c.due(what + ": GETS of " + p, x.gets(p), p == 2 ? 1000 * hand : p < first ? 0 : -1000);
            }
            c.due(what + ": ONE's BEST", x.one(2, 9, 1, 1), 1000 * hand);
            c.due(what + ": ALL", x.all(0), first);
            // by PAYS 4 1 sends it, who has 2 pence and pays a PENNY; from 1 or 2 on it never comes to its END
            c.due(what + ": LEAST", x.least(true, 0, 9, 1), first == 0 ? 4 : NONE);
            c.due(what + ": ODDS", odds(x, 0, 1, 2), first == 0 ? ALL : 0);
            c.due(what + ": ODDS", odds(x, 1, 2), first == 1 ? ALL : 0);
            chain(what, x, 0, first == 0 ? ALL : NONE);
            // TWO letters and a NAME begin with whom they say
            c.due(what + ": TWO letters", x.two(0, 1), 0);
            c.due(what + ": NAME", x.named(0), 3);
            c.due(what + ": NAME", x.named(2), NONE);
            LetterTown y = c.town("person sends;person sends;person sends;knows 0 1;knows 1 2;letter 1 1 3;first " + first + ";");
            y.guess(0, 1, 1, 0);
            y.guess(1, 1, 2, 500);
            row(y, 0, 1, 2);
            y.ended();
            credits(what, y, first == 0 ? 666666 : 500000, first == 0 ? 333333 : 500000);
        }
    }

    /** "Whom it is sent to: by WEIGHTS of those he MAY send it to; of SORT 3 the BEST one." */
    private static void bySortAndWeight() {
        String fan = ";person sends;person sends;knows 0 1 weight 3;knows 0 2;letter 1 0 2 pays 2;";
        String[] sorts = {"opens 2", "sends", "luck 0", "luck 500", "best", "opens 1"};
        int[] toOne = {750000000, 750000000, 750000000, 375000000, ALL, 0};
        int[] toTwo = {250000000, 250000000, 250000000, 125000000, 0, 0};
        int[] gets = {2000, 2000, 2000, 1500, 2000, 1000};
        for (int i = 0; i < sorts.length; i++) {
            LetterTown x = c.town("person " + sorts[i] + fan);
            c.due(sorts[i] + ": by 1", x.opened(1, 2), toOne[i]);
            c.due(sorts[i] + ": by 2", x.opened(2, 2), toTwo[i]);
            c.due(sorts[i] + ": by himself", x.opened(0, 1), ALL - toOne[i] - toTwo[i]);
            c.due(sorts[i] + ": GETS", x.gets(0), gets[i]);
            c.due(sorts[i] + ": ODDS", odds(x, 0, 1), toOne[i]);
            c.due(sorts[i] + ": ODDS", odds(x, 0, 2), toTwo[i]);
            c.due(sorts[i] + ": ODDS", odds(x, 0), ALL - toOne[i] - toTwo[i]);
            chain(sorts[i], x, 0, toOne[i] == 0 ? NONE : toOne[i]);
            c.due(sorts[i] + ": to 1 alone, 2 being left out", x.two(2, 0), 0);
        }
    }
}
