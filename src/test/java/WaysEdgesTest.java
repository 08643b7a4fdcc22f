/** Promises 8 to 14 and 24 at their edges: the first and last HANDS, what is like, what is cut down, what is SPENT. */
public final class WaysEdgesTest {
    private static final Check c = new Check();
    private static final int NONE = LetterTown.NONE;
    private static final long ALL = 1000000000L;
    private static final String[] SORTS = {"opens 9999", "sends", "luck 0", "luck 1000", "best", "best name 9999"};
    private static final String PAIR = "knows 0 1;knows 1 0;";
    // 0 to 1 to .. to 7 and to 0 again
    private static final String RING = Check.knows(2, 4, 8, 16, 32, 64, 128, 1);

    public static void main(String[] args) {
        oneHand();
        nobodyToSendTo();
        twelveHands();
        lastPeople();
        whoMaySend();
        handsThatAreOne();
        felt();
        luckOfOpening();
        casesCutDown();
        pays();
        endsCutDown();
        getsCutDown();
        bestOnlyIfMore();
        bestOfLikeOnes();
        sentAheadByEach();
        allAsTheyAre();
        leastNumbers();
        leastStops();
        oneNumbers();
        oneOfLikeOnes();
        nameOfLack();
        nameWorth();
        feelings();
        twentyThousand();
        spentOnes();
        anotherTown();
        c.end();
    }

    /** "At hand HANDS it has come to its END (it is opened there)": whatever FIRST's SORT is. */
    private static void oneHand() {
        for (String sort : SORTS) {
            LetterTown x = c.town("person " + sort + ";person sends;knows 0 1;letter 7 5 1 prize 3 pays 9;");
            c.due(sort + " END", x.goes(0), ALL);
            c.due(sort + " GOES", x.goes(1), ALL);
            c.due(sort + " opened", x.opened(0, 1), ALL);
            c.due(sort + " opened by another", x.opened(1, 1), 0);
            c.due(sort + " gets", x.gets(0), 10000);
            c.due(sort + " gets another", x.gets(1), 0);
            c.due(sort + " all, who", x.all(0), 0);
            c.due(sort + " all, at", x.all(1), 1);
            c.due(sort + " named", x.named(0), NONE);
            c.due(sort + " feeling", x.feeling(99), ALL);
            c.due(sort + " one", x.one(0, 0, 1, 1), 10000);
            c.due(sort + " least", x.least(false, 0, 0, 1), 0);
            c.due(sort + " least", x.least(true, 8, 9, 1), 8);
            c.thrown(sort + " hand 2", Check.NSE, () -> x.opened(0, 2));
        }
    }

    /** "Who MAY send it to nobody opens it" */
    private static void nobodyToSendTo() {
        for (String sort : SORTS) {
            String people = "person " + sort + ";person sends;";
            LetterTown x = c.town(people + "knows 1 0;letter 7 5 3 prize 3 pays 9;");
            c.due(sort + " END", x.goes(0), 0);
            c.due(sort + " GOES", x.goes(1), ALL);
            c.due(sort + " gets, without a PRIZE", x.gets(0), 7000);
            c.due(sort + " named", x.named(0), NONE);
            c.due(sort + " all", x.all(1), 1);
            c.due(sort + " least", x.least(false, 0, 9, 1), NONE);
            // behind one who sends it: at hand 2 he MAY send it to nobody with LAWS 0 and 1
            String behind = "person sends;person " + sort + ";" + PAIR + "letter 0 0 4;law ";
            c.due(sort + " once", c.town(behind + "once;").opened(1, 2), ALL);
            c.due(sort + " again", c.town(behind + "again;").opened(1, 2), ALL);
        }
        c.due("back", c.town("person sends;person sends;" + PAIR + "letter 0 0 4;law back;").opened(1, 2), 0);
    }

    /** "HANDS (1 to 12)" */
    private static void twelveHands() {
        LetterTown x = c.town("person sends;person sends;" + PAIR + "letter 3 2 12 prize 9999;law back;");
        c.due("END", x.goes(0), ALL);
        c.due("GOES", x.goes(1), 12 * ALL);
        c.due("opened at 12", x.opened(1, 12), ALL);
        c.due("opened at 11", x.opened(0, 11), 0);
        // 3 and 11 times 2, and the PRIZE; 1 sent it five times, 0 six times
        c.due("gets", x.gets(1), 25000 + 9999000 - 5 * 2000);
        c.due("gets", x.gets(0), -6 * 2000);
        c.thrown("opened at 13", Check.NSE, () -> x.opened(1, 13));
        c.thrown("opened at 0", Check.NSE, () -> x.opened(1, 0));
        LetterTown y = c.town("person best name 9999;person best name 9999;" + PAIR + "letter 3 2 12;law back;");
        c.due("all at 12", y.all(1), 12);
        c.due("all by 1", y.all(0), 1);
        c.due("of eleven HANDS", c.town("person sends;person sends;" + PAIR + "letter 3 2 11;law back;").opened(0, 11), ALL);
        LetterTown z = c.town("person sends;letter 1 1 8;");
        c.thrown("opened at 9 of 8", Check.NSE, () -> z.opened(0, 9));
        c.due("opened at 8 of 8", z.opened(0, 8), 0);
    }

    /** Eight PEOPLE in a ring, twelve HANDS: it goes through all, and through four of them again. */
    private static void lastPeople() {
        String ring = Check.people(8, "sends") + RING;
        for (String law : new String[] {"again", "back"}) {
            LetterTown x = c.town(ring + "letter 1 0 12 pays 1;law " + law + ";");
            c.due("opened", x.opened(3, 12), ALL);
            for (int p = 0; p < 8; p++) {
                c.due("gets " + p, x.gets(p), p <= 3 ? 2000 : 1000);
            }
            LetterTown y = c.town(ring + "letter 1 0 12 pays 1;law " + law + ";first 7;");
            c.due("first 7: opened", y.opened(2, 12), ALL);
            c.due("first 7: gets 7", y.gets(7), 2000);
            LetterTown z = c.town(Check.people(8, "best") + RING + "letter 1 0 12 pays 2;law " + law + ";first 7;");
            c.due("all of eight, at", z.all(1), 12);
            c.due("all of eight, by", z.all(0), 2);
        }
        LetterTown w = c.town(ring + "letter 1 0 12;law once;");
        c.due("once: the last opens", w.opened(7, 8), ALL);
        c.due("once: no END", w.goes(0), 0);
        c.due("once: END at 8", c.town(ring + "letter 1 0 8;").goes(0), ALL);
        LetterTown all = c.town(Check.people(8, "luck 0") + RING + "letter 1 0 8 pays 2;first 7;");
        c.due("all of eight, at", all.all(1), 8);
        c.due("all of eight, by", all.all(0), 6);
        LetterTown sure = c.town(Check.people(8, "sends") + Check.knows(254, 0, 0, 0, 0, 0, 0, 0) + "letter 1 0 2;");
        for (int p = 1; p < 8; p++) {
            c.due("a seventh of " + p, sure.opened(p, 2), p < 7 ? 142857142 : ALL - 6 * 142857142);
        }
    }

    /** "with LAW 0 to those who haven't had it, with LAW 1 to those it didn't come from, with LAW 2 to any" */
    private static void whoMaySend() {
        // 0 and 1 know each other, 1 knows 2, 2 knows 0
        String text = "person sends;person sends;person sends;" + PAIR + "knows 1 2;knows 2 0;letter 0 0 4;";
        LetterTown once = c.town(text + "law once;");
        c.due("once: by 2, all having had it", once.opened(2, 3), ALL);
        LetterTown again = c.town(text + "law again;");
        c.due("again: to FIRST by 2", again.opened(0, 4), ALL);
        LetterTown back = c.town(text + "law back;");
        c.due("back: 0, 1, 0, 1", back.opened(1, 4), 500000000);
        c.due("back: 0, 1, 2, 0", back.opened(0, 4), 500000000);
        // FIRST has had it, too; of FIRST's it came from none
        c.due("once: FIRST has had it", c.town("person sends;person sends;" + PAIR + "letter 0 0 3;").opened(1, 2), ALL);
        for (int p = 0; p < 8; p++) {
            int q = (p + 1) % 8;
            LetterTown x = c.town(Check.people(8, "sends") + "knows " + p + " " + q + ";knows " + q + " " + p + ";letter 0 0 3;law again;first " + p + ";");
            c.due("again: came from " + p, x.opened(q, 2), ALL);
            LetterTown y = c.town(Check.people(8, "sends") + "knows " + p + " " + q + ";knows " + q + " " + p + ";letter 0 0 3;first " + p + ";");
            c.due("once: had by " + p, y.opened(q, 2), ALL);
        }
    }

    /** "HANDS of which all that is alike are one": those that are one are cut down together, others each. */
    private static void handsThatAreOne() {
        String text = "person sends;person sends;person sends;person luck 1;person sends;"
            + "knows 0 1;knows 0 2 weight 2;knows 1 3;knows 2 3;knows 3 0;knows 3 4;";
        // 333333333 and 666666667 come to 3 at hand 3
        c.due("once: who has had it counts", c.town(text + "letter 0 0 9;law once;").opened(3, 3), 333333 + 666666);
        c.due("again: whom it came from counts", c.town(text + "letter 0 0 9;law again;").opened(3, 3), 333333 + 666666);
        c.due("back: they are one", c.town(text + "letter 0 0 9;law back;").opened(3, 3), 1000000);
        c.due("back, PAYS: who sent it counts", c.town(text + "letter 0 0 9 pays 1;law back;").opened(3, 3), 333333 + 666666);
        c.due("back, PRIZE alone: they are one", c.town(text + "letter 0 0 9 prize 1;law back;").opened(3, 3), 1000000);
        // another hand of the same one is another HAND
        LetterTown x = c.town("person luck 1;person sends;person sends;knows 0 1;knows 1 0;knows 0 2;knows 2 1;letter 0 0 5;law back;");
        c.due("FIRST at hand 1", x.opened(0, 1), 1000000);
        c.due("FIRST at hand 3", x.opened(0, 3), 499500);
    }

    /** "FELT is N or more", "FELT: PENCE less PENCE MOD WAX" */
    private static void felt() {
        opens("10 0 2", 1, 10, 11);
        opens("10 0 2", 3, 9, 10);
        opens("10 0 2", 10, 10, 11);
        opens("10 0 2", 11, 0, 1);
        opens("99 0 2", 99, 99, 100);
        opens("98 0 2", 99, 0, 1);
        opens("9999 0 2", 1, 9999, NONE);
        opens("9999 0 2", 2, 9998, 9999);
        opens("0 99 2", 1, 0, 1);
        // at hand 12: 9999 and 11 by 99
        LetterTown x = c.town("person opens 9999;person sends;" + PAIR + "letter 8910 99 12;law back;");
        c.due("9900 at hand 11", x.goes(0), ALL);
        x = c.town("person opens 9999;person sends;" + PAIR + "letter 9009 99 12;law back;");
        c.due("9999 at hand 11", x.opened(0, 11), ALL);
        x = c.town("person opens 12;person sends;" + PAIR + "letter 10 1 6;law back;wax 4;");
        c.due("10, 12, 14: felt 8, 12, 12", x.opened(0, 3), ALL);
        c.due("what he gets is PENCE", x.gets(0), 12000 - 1000);
    }

    private static void opens(String letter, int wax, int at, int not) {
        String text = ";person sends;knows 0 1;letter " + letter + ";wax " + wax + ";";
        c.due(letter + " wax " + wax + " opens at " + at, c.town("person opens " + at + text).goes(1), ALL);
        if (not >= 0) {
            c.due(letter + " wax " + wax + " not at " + not, c.town("person opens " + not + text).goes(1), 2 * ALL);
        }
    }

    /** "2 with a chance of N by 1000" */
    private static void luckOfOpening() {
        int[] lucks = {0, 1, 500, 999, 1000};
        for (int luck : lucks) {
            LetterTown x = c.town("person luck " + luck + ";person sends;knows 0 1;letter 4 1 2;");
            c.due("opened, luck " + luck, x.opened(0, 1), luck * 1000000L);
            c.due("sent, luck " + luck, x.opened(1, 2), (1000 - luck) * 1000000L);
            c.due("GOES, luck " + luck, x.goes(1), luck * 1000000L + 2 * (1000 - luck) * 1000000L);
            c.due("gets, luck " + luck, x.gets(0), (4000 * luck - 1000L * (1000 - luck)) / 1000);
            c.due("gets the other, luck " + luck, x.gets(1), 5L * (1000 - luck));
        }
    }

    /** "N by 1000, cut down, is opened", "its WEIGHT by all these WEIGHTS, cut down, the last one what is left" */
    private static void casesCutDown() {
        LetterTown x = c.town("person sends;person sends;person sends;knows 0 1 weight 98;knows 0 2;letter 0 0 2;");
        c.due("98 of 99", x.opened(1, 2), 989898989);
        c.due("what is left", x.opened(2, 2), 10101011);
        x = c.town("person sends;person sends;person sends;knows 0 1;knows 0 2 weight 98;letter 0 0 2;");
        c.due("1 of 99", x.opened(1, 2), 10101010);
        c.due("what is left", x.opened(2, 2), 989898990);
        // 1000000 of 0 at luck 999, 1000 of 1, 1 of 2, which 3 opens at hand 4; of 1 nothing is opened by luck
        String lucks = "person luck 999;person luck 999;person luck 999;person ";
        String line = ";person sends;knows 0 1;knows 1 2;knows 2 3;knows 3 4;";
        x = c.town(lucks + "sends" + line + "letter 0 0 5;");
        c.due("999 of 1000", x.opened(2, 3), 999);
        c.due("the last billionth", x.opened(4, 5), 1);
        c.due("END", x.goes(0), 1);
        x = c.town(lucks + "luck 999" + line + "letter 0 0 5;");
        c.due("999 of 1000 by 1, cut down", x.opened(3, 4), 0);
        c.due("all of it is sent", x.opened(4, 5), 1);
        // 1 by 2 halves: nothing to the first, what is left to the last
        x = c.town(lucks + "sends;person sends;person sends;knows 0 1;knows 1 2;knows 2 3;knows 3 4;knows 3 5;letter 0 0 5;");
        c.due("half of 1", x.opened(4, 5), 0);
        c.due("what is left of 1", x.opened(5, 5), 1);
    }

    /** "he who sends gets, more, 1000 by PAYS by ENDS of that .. less 1000 by PENNY" */
    private static void pays() {
        String line = "person sends;person sends;person sends;knows 0 1;knows 1 2;";
        LetterTown x = c.town(line + "letter 0 99 3 pays 9999;");
        c.due("comes to its END", x.gets(0), 9999000 - 99000);
        c.due("who sends next", x.gets(1), 9999000 - 99000);
        c.due("who opens", x.gets(2), 198000);
        x = c.town(line + "letter 0 99 4 pays 9999;");
        c.due("comes to no END", x.gets(0), -99000);
        c.due("comes to no END", x.gets(1), -99000);
        x = c.town("person sends;person luck 999;person luck 999;person sends;knows 0 1;knows 1 2;knows 2 3;letter 0 0 4 pays 9999;");
        // ENDS 1000 of 1's HAND: 9999000 by 1000 by 1,000,000,000
        c.due("PAYS by ENDS, cut down", x.gets(0), 9);
        // 2 is paid of ENDS 1,000,000,000 if he sends, by luck of 1 and of his own
        c.due("paid by luck", x.gets(2), 9);
        x = c.town("person sends;person luck 999;person luck 999;person sends;knows 0 1;knows 1 2;knows 2 3;letter 0 0 4 pays 999;");
        c.due("PAYS by ENDS, cut down to nothing", x.gets(0), 0);
    }

    /** "ENDS likewise": of WEIGHTS and of SORT 2, cut down. */
    private static void endsCutDown() {
        // of 0's HAND ENDS is 1000000000 by 3, cut down; 4 is paid by it
        String third = "person sends;person sends;person sends;person sends;person sends;knows 4 0;knows 0 1;knows 0 2 weight 2;knows 1 3;";
        LetterTown x = c.town(third + "letter 0 0 4 pays 3;first 4;");
        c.due("3000 by a third, cut down", x.gets(4), 999);
        c.due("PAYS of him who ends it, by a third", x.gets(0), 1000);
        x = c.town(third.replace("weight 2", "weight 98") + "letter 0 0 4 pays 99;first 4;");
        c.due("99000 by 1 of 99, cut down", x.gets(4), 999);
        // 333333333 by (1000 less 1) by 1000: 332999999, cut down; by 1000 PAYS: 332999
        x = c.town(third.replace("person sends;knows", "person sends;person luck 1;knows").replace("knows 4 0", "knows 4 5;knows 5 0")
            + "letter 0 0 5 pays 1000;first 4;");
        c.due("of luck, cut down", x.gets(4), 332999);
    }

    /** "cut down (towards less)": of less than nothing, too. */
    private static void getsCutDown() {
        String three = "person sends;person opens 0;person sends;knows 0 1;knows 0 2 weight 2;";
        c.due("-1000 by 3 and 3", c.town(three + "letter 0 1 2;").gets(0), -1000);
        // 0 sends it to 1, who opens at hand 2; to 2, who sends it back
        LetterTown x = c.town(three + "knows 2 0;letter 0 1 3;law back;");
        c.due("1 by -1000, 2 by 1000", x.gets(0), 333);
        c.due("1 by 1000", x.gets(1), 333);
        c.due("2 by -1000", x.gets(2), -667);
        x = c.town("person luck 1;person sends;knows 0 1;letter 9999 99 2;");
        c.due("9999 less a part", x.gets(0), (9999000L - 99000L * 999 - 999) / 1000);
        c.due("of who opens", x.gets(1), 10098L * 999);
        x = c.town("person luck 999;person sends;knows 0 1;letter 0 99 2;");
        c.due("-99000 by 1", x.gets(0), -99);
        x = c.town("person sends;person sends;person sends;knows 0 1 weight 99;knows 0 2;letter 0 1 3;knows 2 0;law back;");
        // 99 by -1000 and 1 by 2000 less 1000
        c.due("99 and 1", x.gets(0), -980);
        c.due("99 by 1000", x.gets(1), 990);
        c.due("1 by -1000", x.gets(2), -10);
    }

    /** "He sends it, if he MAY and that is more, of some one, than what he gets by opening it" */
    private static void bestOnlyIfMore() {
        String line = "person best;person luck 999;person sends;knows 0 1;knows 1 2;letter 0 0 3 pays ";
        c.due("a thousandth more", c.town(line + "1;").opened(0, 1), 0);
        c.due("nothing more", c.town(line + "0;").opened(0, 1), ALL);
        String sure = "person best;person luck 1000;person sends;knows 0 1;knows 1 2;letter 0 0 3 pays 9999;";
        c.due("like", c.town(sure).opened(0, 1), ALL);
        c.due("a thousandth too dear", c.town("person best;person luck 1;person sends;knows 0 1;knows 1 2;letter 0 1 3 pays 1;").opened(0, 1), ALL);
        c.due("START 1, like", c.town("person best;person sends;knows 0 1;letter 1 0 2 pays 1;").opened(0, 1), ALL);
        c.due("START 1, more", c.town("person best;person sends;knows 0 1;letter 1 0 2 pays 2;").opened(0, 1), 0);
        c.due("PENNY 1, like", c.town("person best;person sends;knows 0 1;letter 1 1 2 pays 2;").opened(0, 1), ALL);
        c.due("PENNY 1, more", c.town("person best;person sends;knows 0 1;letter 1 1 2 pays 3;").opened(0, 1), 0);
        c.due("NAME, like", c.town("person best name 5;person sends;knows 0 1;letter 4 1 2;").opened(0, 1), ALL);
        c.due("NAME, more", c.town("person best name 6;person sends;knows 0 1;letter 4 1 2;").opened(0, 1), 0);
        c.due("NAME 9999, like", c.town("person best name 9999;person sends;knows 0 1;letter 9999 0 2;").opened(0, 1), ALL);
        c.due("NAME 9999, more", c.town("person best name 9999;person sends;knows 0 1;letter 9998 0 2;").opened(0, 1), 0);
        c.due("NAME of the other is his", c.town("person best;person best name 99;person sends;knows 0 1;knows 1 2;letter 4 1 3;").opened(0, 1), ALL);
        c.due("of some one", c.town("person best;person sends;person sends;person sends;knows 0 1;knows 0 2;knows 2 3;letter 1 0 3 pays 2;").opened(3, 3), ALL);
    }

    /** "to whom it is most, of like ones the least" */
    private static void bestOfLikeOnes() {
        for (int first = 0; first < 8; first++) {
            StringBuilder s = new StringBuilder("person sends;".repeat(first) + "person best name 9;" + "person sends;".repeat(7 - first));
            for (int q = 7; q >= 0; q--) {
                if (q != first) s.append("knows ").append(first).append(' ').append(q).append(" weight ").append(q + 1).append(';');
            }
            LetterTown x = c.town(s + "letter 0 0 2;first " + first + ";");
            c.due("of like ones the least, first " + first, x.opened(first == 0 ? 1 : 0, 2), ALL);
        }
        // of 1 he gets nothing more, of 2 he is paid, of 3 the same
        LetterTown y = c.town("person best;person opens 0;person sends;person sends;person sends;knows 0 1;knows 0 2;knows 0 3;knows 2 4;knows 3 4;"
            + "letter 0 0 3 pays 1;");
        c.due("to whom it is most", y.opened(4, 3), ALL);
        c.due("the least of them is paid", y.gets(2), 1000);
        c.due("not the other", y.gets(3), 0);
    }

    /** "for each time that he has sent it ahead": by him, not by others; each PERSON's times are his own. */
    private static void sentAheadByEach() {
        String pair = "person sends;person best;" + PAIR + "letter 1 1 3 pays ";
        // 1 has 2 pence at hand 2, and gets PAYS less a penny: what 0 sent is nothing to him
        c.due("like", c.town(pair + "3;law back;").opened(1, 2), ALL);
        c.due("more", c.town(pair + "4;law back;").goes(0), ALL);
        for (int p = 0; p < 8; p++) {
            for (int k = 0; k < 6; k++) {
                // a way to and fro brings him two pence for one: so he comes to hand 2 k + 1, having sent it k times
                int like = 9 * (k + 1) - 1 - 2 * k;
                sentAhead(p, 1 << (p + 1) % 8, 1 << p, "back", 2 * k + 1, like);
            }
            for (int k = 0; k < 4; k++) {
                int like = 9 * (k + 1) - 1 - 3 * k;
                sentAhead(p, 1 << (p + 1) % 8, 1 << (p + 7) % 8, "again", 3 * k + 1, like);
            }
        }
    }

    /** One who reckons, and others who send; at that hand, the last but one, he opens it if he has so much. */
    private static void sentAhead(int p, int his, int next, String law, int hand, int like) {
        int[] knows = new int[8];
        knows[p] = his;
        knows[(p + 1) % 8] = next;
        if (law.equals("again")) {
            knows[(p + 7) % 8] = 1 << p;
        }
        String people = "person sends;".repeat(p) + "person best;" + "person sends;".repeat(7 - p) + Check.knows(knows);
        String letter = " 1 " + (hand + 1) + " pays 9;law " + law + ";first " + p + ";";
        c.due("more: " + p + " " + law + " " + hand, c.town(people + "letter " + (like - 1) + letter).goes(0), ALL);
        c.due("like: " + p + " " + law + " " + hand, c.town(people + "letter " + like + letter).opened(p, hand), ALL);
    }

    /** "were each of SORT 3 (NAME 0 of those of other SORTS)" */
    private static void allAsTheyAre() {
        for (String sort : SORTS) {
            String text = "person " + sort + ";person " + sort + ";knows 0 1;letter 5 0 2;";
            LetterTown x = c.town(text);
            c.due(sort + " at", x.all(1), sort.equals("best name 9999") ? 2 : 1);
            c.due(sort + " by", x.all(0), sort.equals("best name 9999") ? 1 : 0);
        }
        c.due("from FIRST on", c.town("person sends;person sends;letter 1 1 3;first 1;").all(0), 1);
    }

    /** "from, to not 0 to 9999, from above to, step below 1, more than 60" */
    private static void leastNumbers() {
        LetterTown x = c.town("person sends;person sends;knows 0 1;letter 5 0 2;");
        // sent, if PAYS is above 5
        c.due("from it", x.least(true, 6, 6, 1), 6);
        c.due("to it", x.least(true, 0, 6, 1), 6);
        c.due("to one less", x.least(true, 0, 5, 1), NONE);
        c.due("a step onto to", x.least(true, 0, 6, 6), 6);
        c.due("a step past to", x.least(true, 0, 6, 7), NONE);
        c.due("from 0 to 0", x.least(true, 0, 0, 1), NONE);
        c.due("9999", x.least(true, 9999, 9999, 1), 9999);
        c.due("60 to 9999", x.least(true, 9940, 9999, 1), 9940);
        c.due("60 numbers", x.least(true, 0, 59, 1), 6);
        c.due("60 numbers by 169", x.least(true, 0, 9999, 169), 169);
        c.due("60 numbers by 2", x.least(true, 1, 120, 2), 7);
        c.due("a far step", x.least(true, 0, 9999, Integer.MAX_VALUE), NONE);
        c.due("a far step", x.least(true, 9999, 9999, Integer.MAX_VALUE), 9999);
        int[][] wrong = {{0, 60, 1}, {9939, 9999, 1}, {1, 121, 2}, {0, 9999, 166}, {-1, 5, 1}, {-1, -1, 1}, {0, 10000, 9999},
            {10000, 10000, 1}, {9999, 10000, 1}, {6, 5, 1}, {1, 0, 1}, {0, 5, 0}, {0, 0, 0}, {0, 5, -1}, {0, 0, Integer.MIN_VALUE},
            {Integer.MIN_VALUE, Integer.MAX_VALUE, 1}, {Integer.MIN_VALUE, 0, 1}, {0, Integer.MAX_VALUE, Integer.MAX_VALUE}, {5, Integer.MIN_VALUE, 1}};
        LetterTown none = new LetterTown();
        for (int[] w : wrong) {
            c.thrown("least " + w[0] + " " + w[1] + " " + w[2], Check.IAE, () -> x.least(true, w[0], w[1], w[2]));
            c.thrown("least " + w[0] + " " + w[1] + " " + w[2], Check.IAE, () -> x.least(false, w[0], w[1], w[2]));
            c.thrown("no PEOPLE is ahead", Check.NSE, () -> none.least(true, w[0], w[1], w[2]));
        }
        c.thrown("no PEOPLE", Check.NSE, () -> none.least(false, 0, 5, 1));
        c.due("PAYS stay", x.count(5), 0);
        c.due("PRIZE stays", x.count(4), 0);
    }

    /** "in place of PRIZE, or of PAYS", "one asked ahead of the answer is SPENT" */
    private static void leastStops() {
        LetterTown x = c.town("person best;person sends;knows 0 1;knows 1 0;letter 3 0 3 prize 4 pays 0;law back;");
        // by PRIZE 4: 0 gets 7 at hand 3, but 1 opens at hand 2
        c.due("no PRIZE is enough of itself", x.least(false, 0, 9999, 9999), NONE);
        c.due("PAYS in place", x.least(true, 0, 9, 1), 4);
        LetterTown y = c.town("person best name 4;person best;knows 0 1;letter 3 0 2 prize 9 pays 9;");
        c.due("PAYS 0 in place of 9", y.least(true, 0, 0, 1), 0);
        c.due("PRIZE 0 in place of 9", y.least(false, 0, 0, 1), 0);
        LetterTown z = c.town("person best name 3;person best;knows 0 1;letter 3 0 2 pays 9;");
        c.due("PAYS 0 in place of 9: like", z.least(true, 0, 0, 1), NONE);
        c.due("by PAYS 9 any PRIZE", z.least(false, 0, 0, 1), 0);
        // SPENT, but with PAYS 0; all send it by their NAMES
        LetterTown spent = c.town(Check.spent("best name 9999"));
        c.due("the answer is ahead", spent.least(true, 0, 59, 1), 0);
        c.thrown("the first is SPENT", Check.IAE, () -> spent.least(true, 1, 59, 1));
        c.thrown("each by its own PAYS", Check.IAE, () -> spent.least(false, 0, 59, 1));
        LetterTown never = c.town(Check.spent("best"));
        c.due("PAYS 0 alone", never.least(true, 0, 0, 1), NONE);
        c.due("PAYS 0 alone, the next past to", never.least(true, 0, 59, 60), NONE);
        c.thrown("the second is SPENT", Check.IAE, () -> never.least(true, 0, 1, 1));
    }

    /** "numbers N (0 on, each a step further, to at most to; at most 60)" */
    private static void oneNumbers() {
        // 1 has it at hands 2 and 4 of 5, with 2 and 4 pence
        LetterTown x = c.town("person sends;person sends;" + PAIR + "letter 1 1 5;law back;");
        c.due("0 alone", x.one(1, 0, 1, 0), 0);
        c.due("0 alone, gets", x.one(1, 0, 9999, 1), 2000);
        c.due("to the best", x.one(1, 3, 1, 0), 3);
        c.due("to one less", x.one(1, 2, 1, 0), 0);
        c.due("a step onto to", x.one(1, 3, 3, 0), 3);
        c.due("a step past to", x.one(1, 2, 3, 0), 0);
        c.due("none past to", x.one(1, 2, 2, 1), 2000);
        c.due("60 numbers", x.one(1, 59, 1, 0), 3);
        c.due("60 numbers by 2", x.one(1, 119, 2, 0), 4);
        c.due("60 numbers by 167", x.one(1, 9999, 167, 0), 0);
        c.due("a far step", x.one(1, 9999, Integer.MAX_VALUE, 1), 2000);
        int[][] wrong = {{60, 1}, {120, 2}, {9999, 166}, {-1, 1}, {10000, 9999}, {5, 0}, {0, 0}, {5, -1}, {0, Integer.MIN_VALUE},
            {Integer.MAX_VALUE, Integer.MAX_VALUE}, {Integer.MIN_VALUE, 1}};
        for (int[] w : wrong) {
            c.thrown("one " + w[0] + " " + w[1], Check.IAE, () -> x.one(1, w[0], w[1], 0));
            c.thrown("PERSON is ahead", Check.NSE, () -> x.one(2, w[0], w[1], 0));
            c.thrown("PERSON is ahead", Check.NSE, () -> x.one(-1, w[0], w[1], 0));
            c.thrown("what is ahead", Check.NSE, () -> x.one(1, w[0], w[1], 2));
            c.thrown("what is ahead", Check.NSE, () -> x.one(1, w[0], w[1], -1));
        }
        c.due("SORT stays", x.person(1, 0), 1);
        c.due("N stays", x.person(1, 1), 0);
    }

    /** "of like ones the least", "all others as they are" */
    private static void oneOfLikeOnes() {
        LetterTown x = c.town("person sends;person sends;" + PAIR + "letter 1 1 5;law back;");
        // 0 opens at hand 1 by 0 and 1, at 3 by 2 and 3 (3 less a penny), at 5 by 4 on (5 less two)
        c.due("opened at hand 3", x.one(0, 3, 1, 0), 2);
        c.due("opened at hand 3, gets", x.one(0, 3, 1, 1), 2000);
        c.due("opened at hand 5", x.one(0, 59, 1, 0), 4);
        c.due("opened at hand 1", x.one(0, 1, 1, 0), 0);
        LetterTown like = c.town("person opens 7;person sends;knows 0 1;letter 0 0 2;");
        c.due("like ones", like.one(0, 59, 1, 0), 0);
        c.due("like ones, gets", like.one(0, 59, 1, 1), 0);
        LetterTown less = c.town("person sends;person opens 3;" + PAIR + "letter 3 1 3;law back;");
        c.due("others as they are: 1 opens", less.one(0, 9, 1, 0), 0);
        c.due("gets 3", less.one(0, 9, 1, 1), 3000);
        LetterTown lost = c.town("person sends;person opens 0;knows 0 1;letter 0 9 2;");
        c.due("less than nothing is never the most", lost.one(0, 9, 1, 1), 0);
        LetterTown best = c.town("person sends;person best;person sends;knows 0 1;knows 1 0;letter 0 1 4 prize 9;law back;");
        // 1, by what is BEST, waits for the PRIZE at hand 4, if 0 doesn't open at hand 3
        c.due("who reckons, reckons by that N", best.one(0, 9, 1, 0), 0);
        c.due("gets", best.one(0, 9, 1, 1), 0);
    }

    /** "the least N (0 on) such that 1000 by N .. would let him send it": more, not like. */
    private static void nameOfLack() {
        String line = "person sends;person luck %d;person sends;knows 0 1;knows 1 2;letter %d %d 3 pays %d;";
        int[][] due = {
            // luck, START, PENNY, PAYS, N: he is paid PAYS by (1000 less luck) thousandths
            {999, 0, 0, 1, 0}, {1000, 0, 0, 1, 1}, {0, 1, 0, 1, 1}, {1, 1, 0, 1, 1}, {999, 1, 0, 1, 1}, {1000, 1, 0, 1, 2},
            {0, 2, 0, 1, 2}, {1, 2, 0, 1, 2}, {499, 1, 0, 2, 0}, {500, 1, 0, 2, 1}, {501, 1, 0, 2, 1}, {0, 0, 1, 2, 0}, {0, 0, 1, 1, 1},
            {0, 0, 1, 0, 2}, {1000, 9999, 99, 9999, 10099}, {0, 9999, 99, 9999, 100}};
        for (int[] d : due) {
            LetterTown x = c.town(String.format(line, d[0], d[1], d[2], d[3]));
            c.due("luck " + d[0] + " letter " + d[1] + " " + d[2] + " pays " + d[3], x.named(0), d[4]);
        }
    }

    /** "were one FIRST, and of SORT 3 with NAME 0", "his NAME being 0 at later hands", "none, if he MAY not" */
    private static void nameWorth() {
        String[] ones = {"opens 0", "opens 9999", "sends", "luck 0", "luck 1000", "best", "best name 9999"};
        for (String one : ones) {
            // with NAME 0 he opens at hand 3, and gets 5 less a penny by sending it; by opening it 3
            LetterTown x = c.town("person sends;person " + one + ";" + PAIR + "letter 3 1 4;law back;");
            c.due(one + " opens at hand 3", x.named(1), 0);
            // he gets 3 by opening, and 3 less a penny at hand 3 (3, a penny being nothing there is like): N above nothing
            LetterTown y = c.town("person sends;person " + one + ";" + PAIR + "letter 3 0 4;law back;");
            c.due(one + " like", y.named(1), 1);
        }
        LetterTown x = c.town("person sends;person sends;person sends;knows 1 0;knows 1 2;letter 4 0 2;first 2;");
        c.due("to 0", x.named(1), 5);
        c.due("he MAY not", x.named(0), NONE);
        c.due("he MAY not, being FIRST", x.named(2), NONE);
        c.due("FIRST stays", x.count(8), 2);
        c.due("FIRST stays", x.all(0), 2);
        for (int far : new int[] {-1, 3, 8, Integer.MIN_VALUE, Integer.MAX_VALUE}) {
            c.thrown("named " + far, Check.NSE, () -> x.named(far));
            c.thrown("gets " + far, Check.NSE, () -> x.gets(far));
            c.thrown("opened " + far, Check.NSE, () -> x.opened(far, 1));
            c.thrown("opened " + far + " at no hand", Check.NSE, () -> x.opened(far, 0));
        }
    }

    /** "GOES, were WAX another number (1 to 99)" */
    private static void feelings() {
        LetterTown x = c.town("person opens 98;person sends;knows 0 1;letter 98 0 2;wax 99;");
        c.due("as it is", x.goes(1), 2 * ALL);
        c.due("wax 1", x.feeling(1), ALL);
        c.due("wax 98", x.feeling(98), ALL);
        c.due("wax 99", x.feeling(99), 2 * ALL);
        c.due("as it is", x.goes(1), 2 * ALL);
        for (int far : new int[] {0, -1, 100, Integer.MIN_VALUE, Integer.MAX_VALUE}) {
            c.thrown("feeling " + far, Check.IAE, () -> x.feeling(far));
            c.thrown("no PEOPLE is ahead", Check.NSE, () -> new LetterTown().feeling(far));
        }
        c.thrown("no PEOPLE", Check.NSE, () -> new LetterTown().feeling(1));
        // what another call put in place of something is nothing to this one
        LetterTown y = c.town("person opens 5;person sends;" + PAIR + "letter 1 1 5;law back;");
        c.due("named", y.named(1), 0);
        c.due("feeling behind named", y.feeling(1), 5 * ALL);
        c.due("one", y.one(0, 0, 1, 1), 1000);
        c.due("feeling behind one", y.feeling(1), 5 * ALL);
        c.due("all", y.all(1), 1);
        c.due("feeling behind all", y.feeling(1), 5 * ALL);
        c.due("chain", y.chain(0), NONE);
        c.due("feeling behind chain", y.feeling(1), 5 * ALL);
    }

    /** "if there are more than 20,000 HANDS": each call is answered of 20,000. */
    private static void twentyThousand() {
        LetterTown x = c.town(Check.full("sends"));
        long sum = 0;
        for (int p = 0; p < 6; p++) {
            sum += x.opened(p, 12);
        }
        c.due("opened", sum, ALL);
        c.due("goes", x.goes(1), 12 * ALL);
        c.due("feeling", x.feeling(99), 12 * ALL);
        long paid = 0;
        for (int p = 0; p < 6; p++) {
            paid += x.gets(p);
        }
        // 12 pence, 11 by PAYS less a PENNY: each cut down, so a little less
        c.due("gets", paid > 12000 - 6 * 60 && paid <= 12000, true);
        c.due("all", x.all(1), 1);
        c.due("least", x.least(true, 1, 1, 1), NONE);
        c.due("least", x.least(false, 0, 0, 1), NONE);
        c.due("one", x.one(0, 0, 1, 1), 1000);
        c.due("named", x.named(0) >= 0, true);
        c.due("odds", x.odds(), 0);
        c.due("guess", x.guess(0, 0, 1, 0), true);
        c.due("credit", x.credit(0), 1000000);
        c.due("chain", x.chain(2) > 0, true);
    }

    /** "SPENT (as everywhere)", behind NoSuchElementException */
    private static void spentOnes() {
        LetterTown x = c.town(Check.spent("sends"));
        c.due("people", x.count(0), 6);
        for (int p = 0; p < 6; p++) {
            int person = p;
            c.thrown("opened", Check.IAE, () -> x.opened(person, 12));
            c.thrown("gets", Check.IAE, () -> x.gets(person));
            c.thrown("one", Check.IAE, () -> x.one(person, 0, 1, 1));
        }
        c.thrown("goes", Check.IAE, () -> x.goes(1));
        c.thrown("all", Check.IAE, () -> x.all(1));
        c.thrown("named", Check.IAE, () -> x.named(0));
        c.thrown("feeling", Check.IAE, () -> x.feeling(1));
        c.thrown("PERSON is ahead", Check.NSE, () -> x.opened(6, 1));
        c.thrown("hand is ahead", Check.NSE, () -> x.opened(0, 13));
        c.thrown("PERSON is ahead", Check.NSE, () -> x.gets(-1));
        c.thrown("PERSON is ahead", Check.NSE, () -> x.named(6));
        c.thrown("PERSON is ahead", Check.NSE, () -> x.one(6, 0, 1, 0));
        c.thrown("what is ahead", Check.NSE, () -> x.one(0, 0, 1, 2));
        c.thrown("what is ahead", Check.NSE, () -> x.goes(2));
        c.thrown("what is ahead", Check.NSE, () -> x.all(-1));
        // whatever is done: FIRST opens it, and still they MAY all have it
        LetterTown y = c.town(Check.spent("opens 0"));
        c.thrown("whatever is done", Check.IAE, () -> y.goes(0));
        // the HANDS of another FIRST are others: 7 knows nobody
        LetterTown z = c.town(Check.people(7, "sends") + Check.knows(30, 29, 43, 39, 14, 31) + "letter 1 1 12 pays 1;law back;");
        c.due("were one FIRST who knows nobody", z.named(6), NONE);
        c.thrown("goes from 0", Check.IAE, () -> z.goes(0));
        // without PAYS it doesn't count how often each has sent it
        c.due("PAYS 0", c.town(Check.spent("sends").replace("pays 1", "pays 0")).goes(0), ALL);
        c.due("once", c.town(Check.spent("sends").replace("law back;", "")).goes(0), 0);
    }

    /** What was asked of one town is nothing to the next: also where both have many HANDS. */
    private static void anotherTown() {
        LetterTown x = c.town(Check.full("sends"));
        c.due("20,000", x.goes(1), 12 * ALL);
        String other = Check.people(6, "sends") + Check.knows(62, 61, 9, 19, 46, 11) + "letter 1 1 12 pays 1;law back;";
        c.due("5 doesn't know 4", Check.tell(x, other), 0);
        LetterTown fresh = c.town(other);
        for (int p = 0; p < 6; p++) {
            for (int h = 1; h <= 12; h++) {
                c.due("opened " + p + " " + h, x.opened(p, h), fresh.opened(p, h));
            }
            c.due("gets " + p, x.gets(p), fresh.gets(p));
        }
        LetterTown y = c.town("person sends;person sends;person sends;knows 0 1;letter 1 1 3;");
        c.due("to 1", y.opened(1, 2), ALL);
        c.due("gets", y.gets(1), 2000);
        c.due("anew", Check.tell(y, "person sends;person sends;person sends;knows 0 2;letter 1 1 3;"), 0);
        c.due("to 2", y.opened(2, 2), ALL);
        c.due("no more to 1", y.opened(1, 2), 0);
        c.due("gets", y.gets(1), 0);
        c.due("anew, with another PENNY", Check.tell(y, "person sends;person sends;person sends;knows 0 2;letter 1 5 3;"), 0);
        c.due("gets", y.gets(2), 6000);
        LetterTown z = c.town("person sends;person best;knows 1 0;letter 0 1 2 pays 3;first 1;");
        c.due("named", z.named(1), 0);
        c.due("gets behind it", z.gets(0), 1000);
        c.due("gets behind it", z.gets(1), 2000);
        LetterTown w = c.town("person sends;person best name 9;knows 1 0;letter 0 1 2;first 1;");
        c.due("all", w.all(0), 0);
        c.due("gets behind it", w.gets(0), 1000);
        c.due("gets behind it", w.gets(1), -1000);
    }
}
