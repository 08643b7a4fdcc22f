/** Promises 23 and 25 to 32 at their edges: TWO letters, THEFT, LUCK, WEEKS and their image. */
public final class RestEdgesTest {
    private static final Check c = new Check();
    private static final int NONE = LetterTown.NONE;
    private static final int ALL = 1000000000;
    private static final int[] FAR = {-1, 8, Integer.MIN_VALUE, Integer.MAX_VALUE};

    public static void main(String[] args) {
        twoOfOneHand();
        twoLeftOut();
        twoOfOneBillionth();
        twoEachCutDown();
        twoWrong();
        twoSpent();
        thirtyLetters();
        penniesTooFew();
        peopleThatThereAre();
        setsOfThieves();
        whomToAsk();
        noThieves();
        luckOfNone();
        luckCutDown();
        luckWrong();
        begun();
        hundredWeeks();
        spentWeeks();
        outForSoMany();
        outAndSent();
        drawsOfLuck();
        drawsOfWeights();
        bestIsOut();
        seeds();
        weeksAsked();
        imageOfAll();
        imageStays();
        c.end();
    }

    /** "if it would begin with him, there is none" */
    private static void twoOfOneHand() {
        LetterTown x = c.town("person sends;person sends;knows 0 1;knows 1 0;letter 0 0 1;");
        c.due("another", x.two(0, 1), ALL);
        c.due("another", x.two(1, 0), ALL);
        c.due("the same", x.two(0, 0), 0);
        c.due("the same", x.two(1, 1), 0);
        LetterTown y = c.town("person sends;person sends;knows 0 1;letter 0 0 2;");
        c.due("FIRST opens ahead of its END", y.two(1, 0), 0);
        c.due("the other would begin with him", y.two(0, 1), 0);
    }

    /** "who opened the first is left out of it: it MAY be sent to him no more" */
    private static void twoLeftOut() {
        for (int p = 0; p < 8; p++) {
            int q = (p + 1) % 8;
            int r = (p + 2) % 8;
            String one = Check.people(8, "sends") + "knows " + p + " " + q + ";";
            c.due("nobody is left", c.town(one + "letter 0 0 2;").two(p, p), 0);
            LetterTown x = c.town(one + "knows " + r + " " + q + ";knows " + r + " " + p + " weight 99;letter 0 0 2;");
            c.due("the only one who is left", x.two(p, r), ALL);
            c.due("it would begin with " + p + ", or he MAY send it to nobody", x.two(r, p), 0);
        }
        // left out, 1 ends it ahead: so 0 does as is BEST without him
        LetterTown y = c.town("person best;person sends;person sends;knows 0 1 weight 9;knows 0 2;letter 0 0 2 pays 1;");
        c.due("BEST without him", y.two(0, 0), ALL);
        LetterTown z = c.town("person best;person sends;person opens 0;knows 0 1;knows 0 2;knows 1 2;letter 0 0 3 pays 1;law back;");
        c.due("all open with 2, who is left out", z.two(0, 0), 0);
        c.due("FIRST stays", z.count(8), 0);
        c.due("all MAY be sent to again", z.goes(0), ALL);
    }

    /** "of each by whom the first is opened at its END": with a chance of 1, too. */
    private static void twoOfOneBillionth() {
        String lucks = "person luck 999;person luck 999;person luck 999;person sends;knows 0 1;knows 1 2;knows 2 3;";
        LetterTown x = c.town(lucks + "person sends;knows 4 0;knows 4 3 weight 9;letter 0 0 4;");
        c.due("1 of each", x.two(0, 4), 0);
        // 4 to 5, 6 and 7 at last
        LetterTown y = c.town(lucks + "person sends;person sends;person sends;person sends;knows 4 5;knows 5 6;knows 6 7;letter 0 0 4;");
        c.due("1 of 1,000,000,000", y.two(0, 4), 1);
        c.due("1,000,000,000 of 1", y.two(4, 0), 1);
        c.due("1 of half", c.town(lucks + "person sends;person sends;person sends;person sends;knows 4 5;knows 5 6;knows 6 7;knows 4 1;letter 0 0 4;")
            .two(0, 4), 0);
    }

    /** "that by ENDS of the other, by 1,000,000,000, cut down, together" */
    private static void twoEachCutDown() {
        LetterTown x = c.town(Check.people(8, "sends") + "knows 0 1;knows 0 2;knows 0 3;knows 4 5;knows 4 6;knows 4 7;letter 0 0 2;");
        c.due("nobody who is left out is missed", x.two(0, 4), ALL);
        LetterTown y = c.town(Check.people(5, "sends") + "person luck 333;knows 0 1;knows 0 2;knows 0 3;knows 5 4;letter 0 0 2;");
        // 333333333 by 667000000 are 222333333.1, 333333334 by it 222333333.7
        c.due("each cut down", y.two(0, 5), 3 * 222333333);
        LetterTown z = c.town(Check.people(4, "sends") + "knows 0 1;knows 0 2;knows 0 3;letter 0 0 2;");
        c.due("to those who are left", z.two(0, 0), ALL);
    }

    private static void twoWrong() {
        LetterTown x = c.town(Check.people(8, "sends"));
        for (int far : FAR) {
            c.thrown("two " + far, Check.NSE, () -> x.two(far, 0));
            c.thrown("two with " + far, Check.NSE, () -> x.two(7, far));
            c.thrown("two of none " + far, Check.NSE, () -> new LetterTown().two(far, far));
        }
        c.due("the last", x.two(7, 7), 0);
    }

    /** "(The other is asked for each of these alone, whether it is SPENT.)" */
    private static void twoSpent() {
        // 6 and 7 know each other alone; 0 to 5 have too many HANDS
        String text = Check.people(8, "sends") + Check.knows(30, 29, 43, 39, 14, 31, 128, 64);
        LetterTown x = c.town(text + "letter 1 1 12 pays 1;law back;");
        c.thrown("the first is", Check.IAE, () -> x.two(0, 6));
        c.thrown("the other is", Check.IAE, () -> x.two(6, 0));
        c.due("neither is", x.two(6, 7), 0);
        c.due("neither is", x.two(7, 6), 0);
        c.due("neither is", x.two(6, 6), 0);
        c.thrown("no such PERSON is ahead", Check.NSE, () -> x.two(0, 8));
        c.thrown("no such PERSON is ahead", Check.NSE, () -> x.two(8, 0));
        // the first never comes to its END: the other isn't asked
        LetterTown y = c.town(text.replace("knows7 6;", "") + "letter 1 1 12 pays 1;law back;");
        c.due("the other isn't asked", y.two(6, 0), 0);
        LetterTown z = c.town(text + "letter 1 1 1 pays 1;law back;first 6;");
        c.due("one hand is few", z.two(1, 0), ALL);
    }

    /** "(at most 30)", "NONE (STATUS 2): there are 30" */
    private static void thirtyLetters() {
        LetterTown x = c.town(Check.people(8, "sends"));
        for (int i = 1; i <= 30; i++) {
            c.due("letters ahead", x.count(12), i - 1);
            c.due("letter", x.theft(1, 1), i);
        }
        for (int i = 1; i <= 3; i++) {
            c.due("the 31st", x.theft(2, 1), NONE);
            c.due("refused", x.count(15), i);
            c.due("letters", x.count(12), 30);
        }
        c.due("the 31st is none", x.thieves(0), 1);
        c.due("the 31st is none", x.thieves(2), 128);
        c.due("pennies, and there are 30", x.theft(2, 9), NONE);
        c.due("refused once", x.count(15), 4);
        c.thrown("bits are ahead of 30", Check.IAE, () -> x.theft(256, 1));
        c.due("that is not refused", x.count(15), 4);
        // the 30th counts
        LetterTown y = c.town(Check.people(2, "sends"));
        for (int i = 1; i <= 29; i++) y.theft(0, 0);
        c.due("sets by 29", y.thieves(2), 4);
        c.due("the 30th", y.theft(2, 1), 30);
        c.due("sets by 30", y.thieves(2), 2);
    }

    /** "so many pennies too few (0 to 8)" */
    private static void penniesTooFew() {
        LetterTown x = c.town(Check.people(8, "sends"));
        int refused = 0;
        for (int far : new int[] {-1, 9, 10, Integer.MIN_VALUE, Integer.MAX_VALUE}) {
            c.due("pennies " + far, x.theft(255, far), NONE);
            c.due("refused", x.count(15), ++refused);
            c.due("letters", x.count(12), 0);
            c.thrown("bits are ahead of pennies " + far, Check.IAE, () -> x.theft(-1, far));
            c.due("that is not refused", x.count(15), refused);
        }
        c.due("0", x.theft(255, 0), 1);
        c.due("one set", x.thieves(2), 1);
        LetterTown y = c.town(Check.people(8, "sends"));
        c.due("8", y.theft(255, 8), 1);
        c.due("one set", y.thieves(2), 1);
        c.due("all", y.thieves(0), 255);
        LetterTown z = c.town(Check.people(8, "sends"));
        c.due("8 of 7", z.theft(127, 8), 1);
        c.due("no set", z.thieves(2), 0);
    }

    /** "IllegalArgumentException (ahead): bits of PEOPLE that there aren't" */
    private static void peopleThatThereAre() {
        for (int people = 0; people <= 8; people++) {
            LetterTown x = c.town(Check.people(people, "sends"));
            int all = (1 << people) - 1;
            c.due("all of " + people, x.theft(all, 0), 1);
            c.due("none of " + people, x.theft(0, 0), 2);
            for (int far : new int[] {all + 1, -1, 1 << 30, Integer.MIN_VALUE, Integer.MAX_VALUE}) {
                c.thrown("bits " + far + " of " + people, Check.IAE, () -> x.theft(far, 0));
            }
            c.due("letters", x.count(12), 2);
            c.due("not refused", x.count(15), 0);
        }
    }

    private static void thieves(String what, LetterTown x, int... due) {
        for (int i = 0; i < 5; i++) {
            c.due(what + ": thieves " + i, x.thieves(i), due[i]);
        }
    }

    /** "SURELY, POSSIBLY a thief: in all, in some sets", "the FEWEST .. (of like ones the least as bits)" */
    private static void setsOfThieves() {
        LetterTown x = c.town(Check.people(8, "sends"));
        thieves("no letters", x, 0, 255, 256, 0, 0);
        x.theft(0, 0);
        thieves("one through none", x, 0, 255, 256, 0, 0);
        x.theft(192, 1);
        thieves("6 or 7", x, 0, 255, 128, 64, 0);
        x.theft(160, 1);
        // 7, or 5 and 6
        thieves("7, or 5 and 6", x, 0, 255, 64, 128, 0);
        x.theft(63, 0);
        thieves("7", x, 128, 128, 1, 128, 0);
        x.theft(128, 0);
        thieves("none", x, 0, 0, 0, NONE, NONE);
        LetterTown y = c.town(Check.people(4, "sends"));
        y.theft(12, 1);
        y.theft(3, 1);
        thieves("of like ones the least", y, 0, 15, 4, 5, 0);
        LetterTown z = c.town(Check.people(4, "sends"));
        z.theft(1, 1);
        z.theft(9, 1);
        // 0, not 3, and 1 and 2 perhaps
        thieves("surely, possibly", z, 1, 7, 4, 1, 1);
        LetterTown w = c.town(Check.people(1, "sends"));
        thieves("one PERSON", w, 0, 1, 2, 0, 0);
        w.theft(1, 1);
        thieves("one thief", w, 1, 1, 1, 1, 0);
        LetterTown v = c.town(Check.people(1, "sends"));
        v.theft(1, 0);
        thieves("no thief", v, 0, 0, 1, 0, 0);
    }

    /** "the one who is in as near half of the sets as can be, of like ones the least" */
    private static void whomToAsk() {
        LetterTown x = c.town(Check.people(4, "sends"));
        x.theft(14, 1);
        x.theft(1, 1);
        // {0 1} {0 2} {0 3}: 0 in all, the others in 1 of 3
        c.due("1 of 3", x.thieves(4), 1);
        LetterTown y = c.town(Check.people(4, "sends"));
        y.theft(7, 2);
        y.theft(8, 1);
        // {0 1 3} {0 2 3} {1 2 3}: 3 in all, the others in 2 of 3
        c.due("2 of 3", y.thieves(4), 0);
        LetterTown z = c.town(Check.people(5, "sends"));
        z.theft(15, 1);
        // each in 2 of 8, but 4 in 4 of 8
        c.due("4 of 8", z.thieves(4), 4);
        // 1 of 3 is as near as 2 of 3
        LetterTown w = c.town(Check.people(3, "sends"));
        w.theft(6, 1);
        w.theft(1, 0);
        c.due("1 of 2, of like ones the least", w.thieves(4), 1);
        LetterTown v = c.town(Check.people(2, "sends"));
        v.theft(3, 2);
        c.due("in all, of like ones the least", v.thieves(4), 0);
    }

    /** "ASK (4; NONE: no set does, or no PEOPLE)" */
    private static void noThieves() {
        LetterTown x = new LetterTown();
        thieves("no PEOPLE", x, 0, 0, 1, 0, NONE);
        c.due("0 of none", x.theft(0, 0), 1);
        thieves("no PEOPLE, explained", x, 0, 0, 1, 0, NONE);
        c.due("1 of none", x.theft(0, 1), 2);
        thieves("no PEOPLE, not explained", x, 0, 0, 0, NONE, NONE);
        for (int far : new int[] {-1, 5, Integer.MIN_VALUE, Integer.MAX_VALUE}) {
            c.thrown("thieves " + far, Check.NSE, () -> x.thieves(far));
        }
        c.due("another town", Check.tell(x, "person sends;"), 0);
        thieves("letters are gone", x, 0, 1, 2, 0, 0);
    }

    /** "numbers, 1,000,000,000 of none at first" */
    private static void luckOfNone() {
        LetterTown x = new LetterTown();
        for (int chance : new int[] {0, 1, 500, 999, 1000}) {
            c.due("none or more of none", x.luck(0, 0, chance), ALL);
            c.due("1 of 1", x.luck(1, 1, chance), chance * 1000000);
            c.due("none or more of 1", x.luck(1, 0, chance), ALL);
        }
        for (int k = 0; k <= 30; k++) {
            c.due("surely lost", x.luck(30, k, 1000), ALL);
            c.due("never lost", x.luck(30, k, 0), k == 0 ? ALL : 0);
        }
    }

    /** "together, by 1000, cut down; those of k and more together" */
    private static void luckCutDown() {
        LetterTown x = new LetterTown();
        // 998001000, 1998000, 1000; 997002999, 2994003, 2997, 1; 996005996 of 996005996.001, 3988010 of 3988011.994 ..
        c.due("2 of 2", x.luck(2, 2, 1), 1000);
        c.due("1 of 2", x.luck(2, 1, 1), 1999000);
        c.due("3 of 3", x.luck(3, 3, 1), 1);
        c.due("2 of 3", x.luck(3, 2, 1), 2998);
        c.due("1 of 3", x.luck(3, 1, 1), 2998 + 2994003);
        c.due("none of 3", x.luck(3, 0, 1), 2998 + 2994003 + 997002999L);
        c.due("4 of 4, cut down", x.luck(4, 4, 1), 0);
        // none: 997002999 by 999; 1: 2994003 by 999 and 997002999; 2: 2997 by 999 and 2994003; 3: 999 and 2997
        c.due("3 of 4", x.luck(4, 3, 1), 3);
        c.due("2 of 4", x.luck(4, 2, 1), 3 + 5988);
        c.due("1 of 4", x.luck(4, 1, 1), 3 + 5988 + 3988011);
        c.due("none of 4", x.luck(4, 0, 1), 3 + 5988 + 3988011 + 996005996L);
        c.due("30 of 30", x.luck(30, 30, 999), 970430958);
        // 280343911 by 809 are 226798223999
        c.due("none of 7", x.luck(7, 0, 191) - x.luck(7, 1, 191), 226798223);
        c.due("none or more of 30, each cut down", x.luck(30, 0, 333), 999999783);
    }

    private static void luckWrong() {
        LetterTown x = new LetterTown();
        c.due("30, 30, 1000", x.luck(30, 30, 1000), ALL);
        int[][] wrong = {{-1, 0, 0}, {-1, -1, 0}, {31, 0, 0}, {31, 31, 1000}, {5, -1, 500}, {5, 6, 500}, {0, 1, 500}, {30, 31, 500}, {5, 5, -1},
            {5, 5, 1001}, {Integer.MIN_VALUE, 0, 0}, {Integer.MAX_VALUE, 0, 0}, {5, Integer.MIN_VALUE, 0}, {5, Integer.MAX_VALUE, 0},
            {5, 0, Integer.MIN_VALUE}, {5, 0, Integer.MAX_VALUE}};
        for (int[] w : wrong) {
            c.thrown("luck " + w[0] + " " + w[1] + " " + w[2], Check.IAE, () -> x.luck(w[0], w[1], w[2]));
        }
    }

    private static void thrownAtBegin(LetterTown x, int out) {
        c.thrown("begin, out " + out, Check.IAE, () -> { x.begin(1, out); return 0; });
    }

    /** "with so many weeks to be out (0 to 20), in place of others"; "weeks, no PEOPLE" */
    private static void begun() {
        LetterTown x = c.town("person opens 0;");
        for (int far : new int[] {-1, 21, Integer.MIN_VALUE, Integer.MAX_VALUE}) {
            thrownAtBegin(x, far);
            c.due("none has begun", x.on(0), NONE);
            c.due("none to keep", x.image(), false);
            thrownAtBegin(new LetterTown(), far);
        }
        thrownAtBegin(new LetterTown(), 0);
        x.begin(7, 0);
        c.due("begun", x.on(0), 0);
        c.due("on", x.on(5), 5);
        for (int far : new int[] {-1, 21}) {
            thrownAtBegin(x, far);
            c.due("they stay", x.on(0), 5);
            c.due("they stay", x.week(4, 0), 0);
        }
        x.begin(7, 20);
        c.due("in place of others", x.on(0), 0);
        c.thrown("none has been", Check.NSE, () -> x.week(0, 0));
        c.due("nobody is out", x.on(1), 1);
        c.due("nobody is out", x.week(0, 0), 0);
    }

    /** "So many weeks more (0 to 60)", "NONE: they would be more than 100, or none have begun" */
    private static void hundredWeeks() {
        LetterTown x = c.town("person sends;");
        for (int far : new int[] {-1, 61, Integer.MIN_VALUE, Integer.MAX_VALUE}) {
            c.thrown("on " + far + ", none having begun", Check.IAE, () -> x.on(far));
            c.thrown("on " + far + " of no PEOPLE", Check.IAE, () -> new LetterTown().on(far));
        }
        c.due("none have begun", x.on(0), NONE);
        c.due("none have begun", x.on(60), NONE);
        c.due("no PEOPLE", new LetterTown().on(60), NONE);
        x.begin(1, 0);
        c.due("60", x.on(60), 60);
        c.due("101", x.on(41), NONE);
        c.due("120", x.on(60), NONE);
        c.due("still 60", x.on(0), 60);
        c.due("99", x.on(39), 99);
        c.due("101", x.on(2), NONE);
        c.due("100", x.on(1), 100);
        c.due("101", x.on(1), NONE);
        c.due("still 100", x.on(0), 100);
        for (int far : new int[] {-1, 61}) {
            c.thrown("on " + far + ", 100 having been", Check.IAE, () -> x.on(far));
        }
        c.due("the last", x.week(99, 1), 1);
        c.thrown("none behind it", Check.NSE, () -> x.week(100, 1));
        x.begin(1, 0);
        c.due("room again", x.on(60), 60);
    }

    /** "IllegalArgumentException: how many; (behind NONE) SPENT" */
    private static void spentWeeks() {
        LetterTown x = c.town(Check.spent("opens 0"));
        c.due("none have begun", x.on(1), NONE);
        x.begin(3, 0);
        for (int more : new int[] {0, 1, 60, -1, 61}) {
            c.thrown("SPENT", Check.IAE, () -> x.on(more));
            c.thrown("none has been", Check.NSE, () -> x.week(0, 0));
        }
        c.due("image", x.image(), true);
        c.due("restore", x.restore(), true);
        LetterTown y = c.town(Check.full("opens 0"));
        y.begin(3, 0);
        c.due("20,000", y.on(1), 1);
        c.due("opened", y.week(0, 0), 0);
    }

    private static void weeks(String what, LetterTown x, int from, int... due) {
        c.due(what + ": on", x.on(due.length), from + due.length);
        for (int i = 0; i < due.length; i++) {
            int opener = due[i] == NONE ? NONE : due[i] / 100;
            int hand = due[i] == NONE ? 0 : due[i] % 100;
            c.due(what + ": who in week " + (from + i), x.week(from + i, 0), opener);
            c.due(what + ": hand in week " + (from + i), x.week(from + i, 1), hand);
            c.due(what + ": pence in week " + (from + i), x.week(from + i, 2), hand == 0 ? 0 : x.count(1) + x.count(2) * (hand - 1));
        }
    }

    /** "Who opens it ahead of its END is out for so many weeks behind this one" */
    private static void outForSoMany() {
        for (int out = 0; out <= 20; out++) {
            LetterTown x = c.town("person opens 0;letter 5 3 2;");
            x.begin(1, out);
            c.due("on", x.on(60), 60);
            for (int week = 0; week < 60; week++) {
                boolean isIn = week % (out + 1) == 0;
                c.due("out " + out + ", week " + week, x.week(week, 0), isIn ? 0 : NONE);
                c.due("hand", x.week(week, 1), isIn ? 1 : 0);
                c.due("pence", x.week(week, 2), isIn ? 5 : 0);
            }
        }
        LetterTown end = c.town("person opens 0;letter 5 3 1;");
        end.begin(1, 20);
        weeks("at its END nobody is out", end, 0, 1, 1, 1);
        // weeks that are run one by one are as those that are run at once
        LetterTown one = c.town("person opens 0;letter 5 3 2;");
        one.begin(1, 2);
        for (int week = 0; week < 7; week++) {
            weeks("one by one", one, week, week % 3 == 0 ? 1 : NONE);
        }
        c.due("none more", one.on(0), 7);
    }

    /** "of those he MAY send it to that aren't out (if there is none, he opens it ..)" */
    private static void outAndSent() {
        // 1 opens it at hand 2 and is out; 0 then opens it himself, and is out, too
        LetterTown x = c.town("person sends;person opens 0;person sends;knows 0 1;knows 1 2;letter 9 2 4;");
        x.begin(1, 1);
        weeks("the only one is out", x, 0, 102, 1, NONE, 102, 1, NONE);
        LetterTown y = c.town("person sends;person opens 0;person sends;knows 0 1 weight 99;knows 0 2;knows 1 2;letter 9 2 4;");
        y.begin(1, 5);
        // 16838 MOD 100 is 38: to 1; while he is out to 2, who opens it, and is out; then 0, and is out
        weeks("another one is left", y, 0, 102, 202, 1, NONE, NONE, NONE, NONE, NONE);
        LetterTown z = c.town("person opens 9;person opens 0;knows 0 1;knows 1 0;letter 0 9 9;law back;");
        z.begin(1, 2);
        weeks("who opens at so much", z, 0, 102, 1, NONE, NONE, 102);
    }

    // By the seed 1 the bits 16 to 30 are 16838, 5758, 10113, 17515.
    private static int firstWeek(String text, int seed) {
        LetterTown x = c.town(text);
        x.begin(seed, 0);
        c.due("on", x.on(1), 1);
        return x.week(0, 0) * 100 + x.week(0, 1);
    }

    /** "who MAY send it and is of SORT 2 opens it, if a DRAW of 1000 is below N" */
    private static void drawsOfLuck() {
        String two = ";person sends;knows 0 1;letter 0 0 3;";
        c.due("838 is below 839", firstWeek("person luck 839" + two, 1), 1);
        c.due("838 isn't below 838", firstWeek("person luck 838" + two, 1), 102);
        c.due("838 isn't below 0", firstWeek("person luck 0" + two, 1), 102);
        c.due("838 is below 1000", firstWeek("person luck 1000" + two, 1), 1);
        // a DRAW of 1000, a DRAW of 1, a DRAW of 1000 (10113)
        String three = "person luck 0;person luck %d;person sends;knows 0 1;knows 1 2;letter 0 0 4;";
        c.due("113 is below 114", firstWeek(String.format(three, 114), 1), 102);
        c.due("113 isn't below 113", firstWeek(String.format(three, 113), 1), 203);
        // who MAY send it to nobody draws nothing: in the next week it is 16838 again
        LetterTown x = c.town("person luck 839;person luck 0;knows 0 1;letter 0 0 1;");
        x.begin(1, 0);
        weeks("no DRAW at hand HANDS", x, 0, 1, 1);
        LetterTown y = c.town("person sends;person luck 0;knows 0 1;letter 0 0 3;");
        y.begin(1, 0);
        weeks("no DRAW of who MAY send it to nobody", y, 0, 102, 102);
        // 1 is out: 0 MAY send it to him, so there is a DRAW of 1000, and no DRAW of WEIGHTS
        LetterTown z = c.town("person luck 0;person luck 1000;person sends;knows 0 1;knows 1 2;letter 0 0 4;");
        z.begin(1, 1);
        weeks("he opens it", z, 0, 102, 1, NONE, 102);
    }

    /** "a DRAW of all their WEIGHTS: the first, by number, by whom WEIGHTS, together, are more" */
    private static void drawsOfWeights() {
        String fan = "person sends;person sends;person sends;person sends;knows 0 3 weight %d;knows 0 1 weight %d;knows 0 2 weight %d;letter 0 0 2;";
        // 16838 MOD 100 is 38
        c.due("38 is below 39", firstWeek(String.format(fan, 1, 39, 60), 1), 102);
        c.due("38 isn't below 38, but below 98", firstWeek(String.format(fan, 2, 38, 60), 1), 202);
        c.due("38 is below 37 and 2", firstWeek(String.format(fan, 61, 37, 2), 1), 202);
        c.due("38 isn't below 37 and 1", firstWeek(String.format(fan, 62, 37, 1), 1), 302);
        c.due("of 1", firstWeek("person sends;person sends;knows 0 1;letter 0 0 2;", 1), 102);
        // FIRST is 3, to 0: MAY be sent to the least number, too
        c.due("to 0", firstWeek("person sends;person sends;person sends;person sends;knows 3 0;letter 0 0 2;first 3;", 1), 2);
        c.due("0 ahead of 1", firstWeek("person sends;person sends;person sends;knows 2 0;knows 2 1;letter 0 0 2;first 2;", 1), 2);
        // a week is a DRAW: 38, 5758 MOD 100, 10113 MOD 100, 17515 MOD 100
        LetterTown x = c.town(String.format(fan, 60, 14, 26));
        x.begin(1, 0);
        weeks("draws", x, 0, 202, 302, 102, 202);
        // he who is out has no WEIGHT: 1 opens it, then of 2 and 3 5758 MOD 86 is 82
        LetterTown y = c.town(String.format(fan, 4, 14, 82).replace("person sends;person sends;", "person sends;person opens 0;")
            .replace("knows 0 1 weight 14", "knows 0 1 weight 99").replace("0 0 2", "0 0 3"));
        y.begin(1, 9);
        // 16838 MOD 185 is 3; 5758 MOD 86 is 82: not below 82; 3 opens it
        weeks("of those that aren't out", y, 0, 102, 302, 202, 1, NONE);
    }

    /** "SORT 3 does as is BEST (all being in; if that one is out, he opens it)" */
    private static void bestIsOut() {
        String text = "person best name 9;person opens 0;person sends;knows 0 1;knows 0 2;knows 1 2;knows 2 1;letter 0 0 3;";
        LetterTown x = c.town(text);
        x.begin(1, 1);
        weeks("he opens it, though 2 is in", x, 0, 102, 1, NONE, 102);
        LetterTown y = c.town("person best;person sends;knows 0 1;letter 5 0 3;");
        y.begin(1, 0);
        weeks("BEST is to open", y, 0, 1, 1);
        // no DRAW by him: 16838 is for 1
        c.due("838 is below 839", firstWeek("person best name 9;person luck 839;person sends;knows 0 1;knows 1 2;letter 0 0 3;", 1), 102);
        c.due("838 isn't below 838", firstWeek("person best name 9;person luck 838;person sends;knows 0 1;knows 1 2;letter 0 0 3;", 1), 203);
        // to 0 by one who reckons
        LetterTown z = c.town("person sends;person best name 9;knows 1 0;letter 0 0 2;first 1;");
        z.begin(1, 0);
        weeks("to 0", z, 0, 2, 2);
    }

    /** "(an int that wraps)", "bits 16 to 30" */
    private static void seeds() {
        int[] seeds = {0, 1, -1, 2, 12345, 65535, 65536, Integer.MIN_VALUE, Integer.MAX_VALUE, Integer.MIN_VALUE + 1, 1 << 30, -1103515245};
        for (int seed : seeds) {
            // eight ones of whom each week's DRAW of 7 takes one, then a DRAW of 1000 is taken
            LetterTown x = c.town(Check.people(7, "luck 0") + "person sends;" + Check.knows(0, 1, 1, 1, 1, 1, 1, 127) + "letter 0 0 3;first 7;");
            x.begin(seed, 0);
            c.due("on", x.on(20), 20);
            long s = seed;
            for (int week = 0; week < 20; week++) {
                s = (int) (s * 1103515245L + 12345L);
                int to = (int) (((s & 0xffffffffL) / 65536 % 32768) % 7);
                c.due("seed " + seed + " week " + week, x.week(week, 0), 0);
                c.due("seed " + seed + " week " + week, x.week(week, 1), to == 0 ? 2 : 3);
                // behind it: of 1 to 6 a DRAW of 1000 and one of the WEIGHT to 0
                for (int i = 0; to != 0 && i < 2; i++) {
                    s = (int) (s * 1103515245L + 12345L);
                }
            }
        }
        LetterTown y = c.town("person luck 500;person sends;knows 0 1;letter 0 0 2;");
        for (int seed : seeds) {
            y.begin(seed, 0);
            c.due("on", y.on(1), 1);
            int s = seed * 1103515245 + 12345;
            int bits = 0;
            for (int bit = 30; bit >= 16; bit--) {
                bits = 2 * bits + (s >> bit & 1);
            }
            c.due("seed " + seed, y.week(0, 0), bits % 1000 < 500 ? 0 : 1);
        }
    }

    /** "NoSuchElementException: it hasn't been, another what" */
    private static void weeksAsked() {
        LetterTown x = c.town("person sends;letter 0 0 2;");
        c.thrown("none have begun", Check.NSE, () -> x.week(0, 0));
        x.begin(1, 1);
        c.thrown("none has been", Check.NSE, () -> x.week(0, 0));
        weeks("two", x, 0, 1, NONE);
        for (int far : new int[] {-1, 2, 3, 99, 100, Integer.MIN_VALUE, Integer.MAX_VALUE}) {
            c.thrown("week " + far, Check.NSE, () -> x.week(far, 0));
        }
        for (int far : new int[] {-1, 3, Integer.MIN_VALUE, Integer.MAX_VALUE}) {
            c.thrown("what " + far, Check.NSE, () -> x.week(0, far));
        }
        LetterTown y = c.town("person sends;person sends;knows 0 1;letter 9999 99 12;law back;");
        y.begin(1, 1);
        weeks("PENCE", y, 0, 102, 1);
        LetterTown z = c.town("person sends;person sends;knows 0 1;knows 1 0;letter 9999 99 12;law back;");
        z.begin(1, 1);
        weeks("PENCE of 12 hands", z, 0, 112, 112);
    }

    /** "WEEKS (the seed, who is out, what has been) are kept as an image" */
    private static void imageOfAll() {
        String text = "person luck 500;person luck 500;person luck 500;knows 0 1;knows 1 2;knows 2 0;letter 3 2 5;law back;";
        LetterTown x = c.town(text);
        LetterTown twin = c.town(text);
        x.begin(9, 2);
        twin.begin(9, 2);
        x.on(11);
        twin.on(11);
        c.due("image", x.image(), true);
        x.on(20);
        x.begin(77, 0);
        x.on(60);
        c.due("restore", x.restore(), true);
        c.due("as many", x.on(0), 11);
        c.thrown("no more", Check.NSE, () -> x.week(11, 0));
        c.due("on", x.on(19), 30);
        c.due("on", twin.on(19), 30);
        for (int week = 0; week < 30; week++) {
            for (int what = 0; what < 3; what++) {
                c.due("week " + week + " " + what, x.week(week, what), twin.week(week, what));
            }
        }
        // an image with one who is out
        LetterTown y = c.town("person opens 0;");
        y.begin(1, 3);
        y.on(2);
        c.due("image", y.image(), true);
        y.begin(1, 0);
        y.on(30);
        c.due("restore", y.restore(), true);
        weeks("he is out, and again", y, 2, NONE, NONE, 1, NONE, NONE, NONE, 1);
        // where there was no letter there is none again
        LetterTown z = c.town("person opens 0;");
        z.begin(1, 0);
        z.on(5);
        z.begin(1, 2);
        weeks("no letter", z, 0, 1, NONE, NONE);
    }

    /** "in place of another one", "the image stays", "False: none have begun", "False: there is none" */
    private static void imageStays() {
        LetterTown x = c.town("person sends;");
        c.due("none have begun", x.image(), false);
        c.due("there is none", x.restore(), false);
        x.begin(1, 0);
        c.due("there is none", x.restore(), false);
        c.due("begun", x.on(0), 0);
        c.due("of no weeks", x.image(), true);
        c.due("on", x.on(60), 60);
        x.begin(2, 0);
        c.due("begin leaves it", x.restore(), true);
        c.due("of no weeks", x.on(0), 0);
        c.due("on", x.on(60), 60);
        c.due("on", x.on(40), 100);
        c.due("another", x.image(), true);
        x.begin(3, 0);
        c.due("restore", x.restore(), true);
        c.due("of 100 weeks", x.on(0), 100);
        c.due("no room", x.on(1), NONE);
        c.due("the last", x.week(99, 0), 0);
        c.due("again", x.restore(), true);
        c.due("of 100 weeks", x.on(0), 100);
        c.due("another town", Check.tell(x, "person sends;"), 0);
        c.due("it is gone", x.restore(), false);
        c.due("they are gone", x.on(0), NONE);
        c.due("none to keep", x.image(), false);
        x.begin(1, 0);
        c.due("it is gone", x.restore(), false);
        c.due("no PEOPLE", new LetterTown().image(), false);
        c.due("no PEOPLE", new LetterTown().restore(), false);
    }
}
