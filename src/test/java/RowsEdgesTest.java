/** Promises 15 to 22 at their edges: empty and full ROWS, chances of 1 and of 0, like shares and like rows. */
public final class RowsEdgesTest {
    private static final Check c = new Check();
    private static final int NONE = LetterTown.NONE;
    private static final int ALL = 1000000000;
    private static final String PAIR = "person sends;person sends;knows 0 1;knows 1 0;";
    private static final String LINE = "knows 0 1;knows 1 2;knows 2 3;knows 3 4;";

    public static void main(String[] args) {
        twentyHands();
        emptyRow();
        judged();
        judgedByLaw();
        oddsOfHands();
        oddsOfOneBillionth();
        oddsOfBest();
        twentyRows();
        guessesTaken();
        guessesRefused();
        guessesAnew();
        likeShares();
        oddsBy1000();
        creditOfEachRow();
        othersAsTheyAre();
        chainOfHands();
        chainOfOneBillionth();
        chainOfLikeOnes();
        chainByLaw();
        chainIsKept();
        spent();
        c.end();
    }

    private static void row(LetterTown x, int... people) {
        for (int i = 0; i < people.length; i++) {
            c.due("hand " + people[i], x.hand(people[i]), i + 1);
        }
    }

    private static int judge(LetterTown x, int... people) {
        row(x, people);
        int first = x.judge();
        c.due("ended", x.ended() > 0, true);
        return first;
    }

    private static int odds(LetterTown x, int... people) {
        row(x, people);
        int odds = x.odds();
        c.due("ended", x.ended() > 0, true);
        return odds;
    }

    /** "(at most 20 hands)", "NONE (STATUS 1): it has 20", "no such PERSON (as everywhere)" */
    private static void twentyHands() {
        LetterTown x = c.town(Check.people(8, "sends"));
        for (int i = 1; i <= 20; i++) {
            for (int far : new int[] {-1, 8, Integer.MIN_VALUE, Integer.MAX_VALUE}) {
                c.thrown("hand " + far, Check.NSE, () -> x.hand(far));
            }
            c.due("hands ahead", x.count(10), i - 1);
            c.due("hand", x.hand(i % 2 * 7), i);
            c.due("hands", x.count(10), i);
        }
        for (int i = 1; i <= 3; i++) {
            c.due("the 21st", x.hand(0), NONE);
            c.due("refused", x.count(14), i);
            c.due("hands", x.count(10), 20);
        }
        c.thrown("no such PERSON, it having 20", Check.NSE, () -> x.hand(8));
        c.due("that is not refused", x.count(14), 3);
        c.due("ended", x.ended(), 1);
        c.due("room again", x.hand(0), 1);
        c.due("STATUS stays", x.count(14), 3);
        c.thrown("of none", Check.NSE, () -> new LetterTown().hand(0));
    }

    /** "0 of a ROW .. of none", "NONE: all may be" */
    private static void emptyRow() {
        LetterTown x = c.town("person sends;person sends;letter 1 1 3;");
        c.due("judge", x.judge(), NONE);
        c.due("odds", x.odds(), 0);
        c.due("a ROW by FIRST, who opens", odds(x, 0), ALL);
        c.due("empty again: odds", x.odds(), 0);
        c.due("a ROW by another", judge(x, 1), 1);
        c.due("empty again: judge", x.judge(), NONE);
        c.due("empty can be ended", x.ended(), 3);
        c.due("no PEOPLE: judge", new LetterTown().judge(), NONE);
        c.due("no PEOPLE: odds", new LetterTown().odds(), 0);
        c.due("no PEOPLE: ended", new LetterTown().ended(), 1);
    }

    /** "another than FIRST at hand 1, one who isn't among those it MAY be sent to" */
    private static void judged() {
        LetterTown x = c.town(PAIR + "letter 1 1 12;law back;");
        c.due("12 hands", judge(x, 0, 1, 0, 1, 0, 1, 0, 1, 0, 1, 0, 1), NONE);
        c.due("the 13th", judge(x, 0, 1, 0, 1, 0, 1, 0, 1, 0, 1, 0, 1, 0), 13);
        c.due("the 13th of 20", judge(x, 0, 1, 0, 1, 0, 1, 0, 1, 0, 1, 0, 1, 0, 1, 0, 1, 0, 1, 0, 1), 13);
        c.due("himself", judge(x, 0, 0, 1, 0), 2);
        c.due("another than FIRST", judge(x, 1, 0), 1);
        c.due("the first of two", judge(x, 0, 1, 1, 1), 3);
        LetterTown one = c.town(PAIR + "letter 1 1 1;first 1;");
        c.due("one hand", judge(one, 1), NONE);
        c.due("the 2nd of one", judge(one, 1, 0), 2);
        c.due("another than FIRST", judge(one, 0), 1);
        LetterTown none = c.town("person sends;person sends;");
        c.due("whom he doesn't know", judge(none, 0, 1), 2);
        c.due("of 20 the first", judge(none, 1, 1, 1, 1, 1, 1, 1, 1, 1, 1, 1, 1, 1, 1, 1, 1, 1, 1, 1, 1), 1);
        LetterTown opens = c.town("person opens 0;person sends;knows 0 1;letter 1 1 3;");
        c.due("it MAY be, though he opens it", judge(opens, 0, 1), NONE);
        LetterTown eight = c.town(Check.people(8, "sends") + "knows 7 6;knows 6 0;first 7;letter 1 1 3;");
        c.due("eight", judge(eight, 7, 6, 0), NONE);
        c.due("eight", judge(eight, 7, 0), 2);
    }

    private static void judgedByLaw() {
        String ring = "person sends;person sends;person sends;knows 0 1;knows 1 2;knows 2 0;knows 1 0;knows 2 1;letter 1 1 6;law ";
        LetterTown once = c.town(ring + "once;");
        c.due("once: FIRST had it", judge(once, 0, 1, 0), 3);
        c.due("once: another had it", judge(once, 0, 1, 2, 1), 4);
        c.due("once: FIRST had it, long ahead", judge(once, 0, 1, 2, 0), 4);
        c.due("once: all", judge(once, 0, 1, 2), NONE);
        LetterTown again = c.town(ring + "again;");
        c.due("again: it came from FIRST", judge(again, 0, 1, 0), 3);
        c.due("again: it came from another", judge(again, 0, 1, 2, 1), 4);
        c.due("again: had long ahead", judge(again, 0, 1, 2, 0, 1, 2), NONE);
        c.due("again: behind its END", judge(again, 0, 1, 2, 0, 1, 2, 0), 7);
        LetterTown back = c.town(ring + "back;");
        c.due("back: any", judge(back, 0, 1, 0, 1, 2, 1), NONE);
        c.due("back: behind its END", judge(back, 0, 1, 0, 1, 2, 1, 2), 7);
    }

    /** "(of SORT 2 by (1000 less N) by 1000, cut down; of others all or nothing), then by the WEIGHT .., cut down" */
    private static void oddsOfHands() {
        LetterTown x = c.town("person luck 1;person luck 999;person sends;person opens 9;knows 0 1;knows 0 2 weight 98;"
            + "knows 1 2;knows 2 3;letter 0 0 4;");
        c.due("opened by luck 1", odds(x, 0), 1000000);
        // 999000000 by 1 of 99 is 10090909; by 999
        c.due("opened by luck 999", odds(x, 0, 1), 10080818);
        c.due("98 of 99, who sends", odds(x, 0, 2), 0);
        // 999000000 by 98 of 99 is 988909090
        c.due("98 of 99, and on", odds(x, 0, 2, 3), 988909090);
        c.due("10090909 by 1, and on", odds(x, 0, 1, 2, 3), 10090);
        c.due("who sends at hand HANDS", odds(c.town("person sends;person sends;knows 0 1;letter 0 0 2;"), 0, 1), ALL);
        c.due("luck 0 sends", odds(c.town("person luck 0;person sends;knows 0 1;letter 0 0 2;"), 0), 0);
        c.due("luck 1000 opens", odds(c.town("person luck 1000;person sends;knows 0 1;letter 0 0 2;"), 0), ALL);
        c.due("luck 1000 doesn't send", odds(c.town("person luck 1000;person sends;knows 0 1;letter 0 0 2;"), 0, 1), 0);
        c.due("luck 0, who MAY send it to nobody", odds(c.town("person luck 0;letter 0 0 2;"), 0), ALL);
        c.due("luck 0 at hand HANDS", odds(c.town("person luck 0;person luck 0;knows 0 1;letter 0 0 2;"), 0, 1), ALL);
        c.due("FELT is N", odds(c.town("person opens 4;person sends;knows 0 1;letter 5 0 2;wax 4;"), 0), ALL);
        c.due("FELT is below N", odds(c.town("person opens 5;person sends;knows 0 1;letter 5 0 2;wax 4;"), 0), 0);
        c.due("FELT is below N: sent", odds(c.town("person opens 5;person sends;knows 0 1;letter 5 0 2;wax 4;"), 0, 1), ALL);
        LetterTown y = c.town(PAIR + "letter 0 0 2;");
        c.due("another than FIRST", odds(y, 1), 0);
        c.due("behind its END", odds(y, 0, 1, 0), 0);
        c.due("as long as can be", odds(y, 0, 1, 0, 1, 0, 1, 0, 1, 0, 1, 0, 1, 0, 1, 0, 1, 0, 1, 0, 1), 0);
        c.due("12 hands", odds(c.town(PAIR + "letter 0 0 12;law back;"), 0, 1, 0, 1, 0, 1, 0, 1, 0, 1, 0, 1), ALL);
    }

    /** Chances of 1, and what is cut down to 0. */
    private static void oddsOfOneBillionth() {
        String lucks = "person luck 999;person luck 999;person luck 999;person sends;person sends;" + LINE + "letter 0 0 5;";
        LetterTown x = c.town(lucks);
        c.due("1000000 by 999", odds(x, 0, 1), 999000);
        c.due("1000 by 999", odds(x, 0, 1, 2), 999);
        c.due("1 is sent", odds(x, 0, 1, 2, 3, 4), 1);
        c.due("1 by 999, cut down", odds(c.town(lucks.replace("person sends;person", "person luck 999;person")), 0, 1, 2, 3), 0);
        c.due("1 by 1, cut down", odds(c.town(lucks.replace("person sends;person", "person luck 999;person")), 0, 1, 2, 3, 4), 0);
        c.due("1 by a half", odds(c.town(lucks + "knows 3 0;"), 0, 1, 2, 3, 4), 1);
        c.due("1 by a half, back", odds(c.town(lucks + "knows 3 0;law back;"), 0, 1, 2, 3, 4), 0);
    }

    /** "(of SORT 3 all, if that is the BEST one, else nothing)" */
    private static void oddsOfBest() {
        LetterTown x = c.town("person best name 9;person sends;person sends;knows 0 1;knows 0 2 weight 99;letter 0 0 2;");
        c.due("all to the BEST one, of like ones the least", odds(x, 0, 1), ALL);
        c.due("nothing to another", odds(x, 0, 2), 0);
        c.due("he doesn't open", odds(x, 0), 0);
        LetterTown y = c.town("person best;person sends;person sends;knows 0 1;knows 0 2;letter 1 0 2 pays 1;");
        c.due("like: he opens", odds(y, 0), ALL);
        c.due("like: he doesn't send", odds(y, 0, 1), 0);
    }

    /** "with each ROW that was ended (at most 20)", "NONE (it stays): 20 were" */
    private static void twentyRows() {
        LetterTown x = c.town("person sends;person sends;");
        for (int i = 1; i <= 20; i++) {
            c.due("ROWS ahead", x.count(11), i - 1);
            if (i % 2 == 0) row(x, 0, 1);
            c.due("ended", x.ended(), i);
            c.due("ROWS", x.count(11), i);
            c.due("empty", x.count(10), 0);
        }
        c.due("the 21st, of none", x.ended(), NONE);
        row(x, 1, 0, 1);
        for (int i = 0; i < 3; i++) {
            c.due("the 21st", x.ended(), NONE);
            c.due("it stays", x.count(10), 3);
            c.due("it stays", x.judge(), 1);
            c.due("ROWS", x.count(11), 20);
        }
        c.due("no STATUS of it", x.count(13) + x.count(14) + x.count(15), 0);
        c.due("more of it", x.hand(0), 4);
    }

    private static void taken(int sort, int n) {
        LetterTown x = c.town("person luck 5;person sends;knows 0 1;letter 5 1 2;");
        for (int g = 0; g < 4; g++) {
            int guess = g;
            c.due("none told", x.credit(guess), NONE);
            c.due("guess " + g + " of SORT " + sort + " " + n, x.guess(guess, 0, sort, n), true);
            c.due("told", x.credit(guess), 1000000);
            x = c.town("person luck 5;person sends;knows 0 1;letter 5 1 2;");
        }
        c.due("the last PERSON", x.guess(3, 1, sort, n), true);
    }

    /** "(N 0 to 9999, of SORT 2 to 1000; of SORT 1 it counts for nothing): true" */
    private static void guessesTaken() {
        for (int n : new int[] {0, 1, 999, 1000}) {
            taken(0, n);
            taken(2, n);
            taken(3, n);
        }
        for (int n : new int[] {1001, 9998, 9999}) {
            taken(0, n);
            taken(3, n);
        }
        for (int n : new int[] {0, 1, -1, 9999, 10000, Integer.MIN_VALUE, Integer.MAX_VALUE}) {
            taken(1, n);
        }
    }

    /** "False: not as told. NoSuchElementException: also no such GUESS (0 to 3)" */
    private static void guessesRefused() {
        LetterTown x = c.town("person sends;person sends;knows 0 1;letter 5 1 2;");
        int[][] wrong = {{-1, 0}, {4, 0}, {Integer.MIN_VALUE, 0}, {Integer.MAX_VALUE, 0}, {0, -1}, {0, 10000}, {2, -1}, {2, 1001}, {2, 9999},
            {3, -1}, {3, 10000}, {0, Integer.MIN_VALUE}, {3, Integer.MAX_VALUE}, {2, Integer.MIN_VALUE}};
        for (int[] w : wrong) {
            c.due("guess of SORT " + w[0] + " " + w[1], x.guess(0, 0, w[0], w[1]), false);
            c.due("nothing was told", x.credit(0), NONE);
            for (int far : new int[] {-1, 4, Integer.MIN_VALUE, Integer.MAX_VALUE}) {
                c.thrown("no such GUESS is ahead", Check.NSE, () -> x.guess(far, 0, w[0], w[1]) ? 1 : 0);
                int person = far == 4 ? 2 : far;
                c.thrown("no such PERSON is ahead", Check.NSE, () -> x.guess(0, person, w[0], w[1]) ? 1 : 0);
            }
        }
        for (int far : new int[] {-1, 4, Integer.MIN_VALUE, Integer.MAX_VALUE}) {
            c.thrown("guess " + far, Check.NSE, () -> x.guess(far, 0, 0, 0) ? 1 : 0);
            c.thrown("credit " + far, Check.NSE, () -> x.credit(far));
            c.thrown("credit " + far + " of no PEOPLE", Check.NSE, () -> new LetterTown().credit(far));
        }
        c.thrown("no PEOPLE", Check.NSE, () -> new LetterTown().guess(0, 0, 0, 0) ? 1 : 0);
        c.due("no PEOPLE", new LetterTown().credit(3), NONE);
        // one that is refused leaves what was told
        c.due("told", x.guess(0, 0, 0, 5), true);
        c.due("another", x.guess(1, 0, 1, 0), true);
        c.due("refused", x.guess(0, 0, 0, 10000), false);
        c.due("refused", x.guess(0, 0, 2, 1001), false);
        row(x, 0);
        x.ended();
        c.due("what was told stays: he opens at 5", x.credit(0), 999999);
    }

    /** Told again, told of another, and gone with the town. */
    private static void guessesAnew() {
        String text = "person sends;person sends;person sends;knows 0 1;knows 1 2;letter 5 0 3;";
        LetterTown x = c.town(text);
        x.guess(0, 0, 0, 0);
        x.guess(0, 0, 0, 6);
        x.guess(1, 0, 1, 0);
        row(x, 0, 1, 2);
        x.ended();
        c.due("the latest counts", x.credit(0), 500000);
        x.guess(0, 1, 2, 500);
        c.due("of two PEOPLE", x.credit(0), 333333);
        c.due("of two PEOPLE", x.credit(1), 666666);
        c.due("another town", Check.tell(x, text), 0);
        c.due("gone", x.credit(0), NONE);
        x.guess(0, 0, 1, 0);
        x.guess(1, 0, 1, 0);
        row(x, 0, 1, 2);
        x.ended();
        c.due("what was told of 1 is gone", x.credit(0), 500000);
    }

    /** "at first like shares of 1,000,000, cut down" */
    private static void likeShares() {
        int[] due = {1000000, 500000, 333333, 250000};
        for (int guesses = 1; guesses <= 4; guesses++) {
            LetterTown x = c.town("person sends;person sends;knows 0 1;letter 5 0 2;");
            for (int g = 0; g < guesses; g++) x.guess(3 - g, 0, 1, 0);
            for (int g = 0; g < 4; g++) {
                c.due(guesses + " GUESSES", x.credit(g), g > 3 - guesses ? due[guesses - 1] : NONE);
            }
            x.ended();
            for (int g = 0; g < 4; g++) {
                c.due(guesses + " GUESSES, an empty ROW", x.credit(g), g > 3 - guesses ? due[guesses - 1] : NONE);
            }
        }
    }

    /** "each is laid by its ODDS of that ROW .., by 1,000, cut down, 1 at least" */
    private static void oddsBy1000() {
        LetterTown x = c.town("person luck 999;person sends;person sends;person sends;" + LINE.replace("knows 3 4;", "") + "letter 0 0 4;");
        x.guess(0, 1, 2, 1000);
        x.guess(1, 1, 2, 999);
        x.guess(2, 1, 2, 998);
        x.guess(3, 1, 2, 997);
        row(x, 0, 1, 2, 3);
        x.ended();
        // ODDS 0, 1000, 2000, 3000: by 1, 1, 2, 3
        int[] due = {142857, 142857, 285714, 428571};
        for (int g = 0; g < 4; g++) {
            c.due("ODDS " + 1000 * g, x.credit(g), due[g]);
        }
        // ODDS 999 are cut down to nothing, and 1 at least; 1998 to 1
        x.guess(0, 2, 2, 1);
        x.guess(1, 2, 2, 1);
        x.guess(2, 2, 2, 1);
        x.guess(3, 2, 2, 1);
        int[] less = {200000, 200000, 200000, 400000};
        for (int g = 0; g < 4; g++) {
            c.due("ODDS " + 999 * g, x.credit(g), less[g]);
        }
    }

    /** "with each ROW that was ended, in order": each of twenty counts, and its own PEOPLE. */
    private static void creditOfEachRow() {
        LetterTown x = c.town("person luck 500;person luck 500;person sends;knows 0 1;knows 0 2;knows 1 2;knows 2 1;letter 0 0 3;");
        x.guess(0, 0, 2, 900);
        x.guess(1, 0, 2, 100);
        long[] share = {500000, 500000};
        int[][] rows = {{0}, {0, 1}, {}, {0, 2, 1}, {0, 1, 2}, {1}, {0, 0}};
        long[][] by = {{900000, 100000}, {25000, 225000}, {1, 1}, {50000, 450000}, {25000, 225000}, {1, 1}, {1, 1}};
        for (int i = 0; i < 20; i++) {
            row(x, rows[i % 7]);
            c.due("ended", x.ended(), i + 1);
            long all = share[0] * by[i % 7][0] + share[1] * by[i % 7][1];
            for (int g = 0; g < 2; g++) {
                share[g] = share[g] * by[i % 7][g] * 1000000 / all;
                c.due("credit " + g + " of " + (i + 1), x.credit(g), share[g]);
            }
        }
        row(x, 0);
        c.due("the 21st", x.ended(), NONE);
        c.due("counts for nothing", x.credit(0), share[0]);
        // a share that has come to 0 stays 0
        LetterTown y = c.town("person sends;person sends;knows 0 1;letter 0 0 2;");
        y.guess(0, 0, 1, 0);
        y.guess(1, 0, 0, 0);
        row(y, 0, 1);
        y.ended();
        c.due("1 of 1000001", y.credit(1), 0);
        c.due("1000000 of 1000001", y.credit(0), 999999);
        row(y, 0);
        y.ended();
        c.due("0 by all", y.credit(1), 0);
        c.due("all", y.credit(0), 1000000);
    }

    /** "(all others as they are)": what one GUESS tells is nothing to another, nor to the town. */
    private static void othersAsTheyAre() {
        LetterTown x = c.town("person luck 500;person luck 500;person luck 500;knows 0 1;knows 1 2;letter 0 0 3;");
        x.guess(0, 0, 0, 0);
        x.guess(1, 1, 1, 0);
        x.guess(2, 2, 3, 0);
        x.guess(3, 0, 1, 0);
        row(x, 0, 1, 2);
        x.ended();
        // 0 opens: 1; 500000, 250000, 500000
        c.due("0 opens", x.credit(0), 0);
        c.due("1 sends", x.credit(1), 500000L * 1000000 / 1250001);
        c.due("2 ends it anyhow", x.credit(2), 250000L * 1000000 / 1250001);
        c.due("0 sends", x.credit(3), 500000L * 1000000 / 1250001);
        row(x, 0, 1, 2);
        c.due("ODDS are the town's", x.odds(), 250000000);
        c.due("SORTS are the town's", x.person(0, 0) + x.person(1, 0) + x.person(2, 0), 6);
    }

    /** "Of HANDS of h HANDS the likeliest": one hand and twelve, and FIRST. */
    private static void chainOfHands() {
        for (int law = 0; law < 3; law++) {
            LetterTown one = c.town("person sends;person opens 0;letter 1 1 1;first 1;");
            c.due("one hand", one.chain(law), ALL);
            c.due("one hand", one.chained(0), 1);
            c.thrown("one hand", Check.NSE, () -> one.chained(1));
        }
        LetterTown x = c.town(Check.people(8, "sends") + Check.knows(2, 4, 8, 16, 32, 64, 128, 1) + "letter 1 1 12;first 5;");
        c.due("twelve", x.chain(1), ALL);
        for (int i = 0; i < 12; i++) {
            c.due("twelve " + i, x.chained(i), (5 + i) % 8);
        }
        for (int far : new int[] {-1, 12, Integer.MIN_VALUE, Integer.MAX_VALUE}) {
            c.thrown("chained " + far, Check.NSE, () -> x.chained(far));
        }
        c.due("none of twelve once", x.chain(0), NONE);
        c.due("what is kept stays", x.chained(11), 0);
        for (int far : new int[] {-1, 3, Integer.MIN_VALUE, Integer.MAX_VALUE}) {
            c.thrown("chain " + far, Check.NSE, () -> x.chain(far));
            c.thrown("chain " + far + " of no PEOPLE", Check.NSE, () -> new LetterTown().chain(far));
        }
        c.thrown("no PEOPLE", Check.NSE, () -> new LetterTown().chain(2));
        c.due("what is kept stays", x.chained(0), 5);
    }

    /** "a chance of 0 is none" */
    private static void chainOfOneBillionth() {
        String lucks = "person luck 999;person luck 999;person luck 999;person sends;person sends;";
        LetterTown x = c.town(lucks + LINE + "letter 0 0 5;");
        c.due("a chance of 1", x.chain(0), 1);
        c.due("kept", x.chained(4), 4);
        LetterTown y = c.town(lucks.replace("sends;person sends", "luck 1;person sends") + LINE + "letter 0 0 5;");
        c.due("a chance cut down to 0", y.chain(0), NONE);
        c.thrown("none is kept", Check.NSE, () -> y.chained(0));
        LetterTown z = c.town(lucks + LINE + "knows 3 2;letter 0 0 5;law back;");
        c.due("1 by halves", z.chain(2), NONE);
        c.due("1, it needn't be opened", c.town(lucks + LINE + "letter 0 0 4;").chain(0), 1);
        c.due("luck 1000", c.town("person luck 1000;person sends;knows 0 1;letter 0 0 2;").chain(0), NONE);
        c.due("he opens", c.town("person opens 0;person sends;knows 0 1;letter 0 0 2;").chain(0), NONE);
        c.due("the last one needn't open it", c.town("person sends;person luck 0;knows 0 1;letter 0 0 2;").chain(0), ALL);
    }

    private static void chained(LetterTown x, int... due) {
        for (int i = 0; i < due.length; i++) {
            c.due("chained " + i, x.chained(i), due[i]);
        }
    }

    /** "of like ones the row that is first" */
    private static void chainOfLikeOnes() {
        // by 3, 2 and 1 to 4: of like ways to one HAND (law back) and to three HANDS (law once)
        String fan = Check.people(5, "sends") + "knows 0 3;knows 0 2;knows 0 1;knows 3 4;knows 2 4;knows 1 4;letter 0 0 3;";
        for (int law = 0; law < 3; law++) {
            LetterTown x = c.town(fan);
            c.due("like ones", x.chain(law), 333333333);
            chained(x, 0, 1, 4);
        }
        // 0 1 4, or 0 2 3: other HANDS at the END
        LetterTown y = c.town(Check.people(5, "sends") + "knows 0 2;knows 0 1;knows 2 3;knows 1 4;letter 0 0 3;");
        c.due("like ENDS", y.chain(0), 500000000);
        chained(y, 0, 1, 4);
        LetterTown z = c.town(Check.people(5, "sends") + "knows 0 2 weight 51;knows 0 1 weight 49;knows 2 3;knows 1 4;letter 0 0 3;");
        c.due("the likeliest", z.chain(0), 510000000);
        chained(z, 0, 2, 3);
        // of one HAND the likeliest way is by 2, though by 1 is the row that is first
        LetterTown w = c.town(Check.people(5, "sends") + "knows 0 1 weight 49;knows 0 2 weight 51;knows 1 3;knows 2 3;knows 3 4;letter 0 0 4;");
        c.due("the likeliest way", w.chain(2), 510000000);
        chained(w, 0, 2, 3, 4);
        // the row that is first by its first other hand, not by the last one
        LetterTown v = c.town(Check.people(7, "sends") + "knows 0 2;knows 0 1;knows 2 3;knows 1 6;knows 3 4;knows 6 5;letter 0 0 4;");
        c.due("like rows", v.chain(0), 500000000);
        chained(v, 0, 1, 6, 5);
        // to 5 by 1 or 2, to 3 by 2: 0 2 3 is a row ahead of 0 2 5
        String ways = Check.people(7, "sends") + "knows 0 1;knows 0 2 weight 8;knows 1 5;knows 2 5 weight %d;knows 2 3 weight %d;knows 5 6;knows 3 6;"
            + "letter 0 0 4;";
        for (int law = 0; law < 3; law++) {
            LetterTown u = c.town(String.format(ways, 3, 1));
            c.due("three of four by 5", u.chain(law), 666666666);
            chained(u, 0, 2, 5, 6);
            LetterTown t = c.town(String.format(ways, 1, 1));
            c.due("like", t.chain(law), 444444444);
            chained(t, 0, 2, 3, 6);
            LetterTown r = c.town(String.format(ways, 1, 3));
            c.due("three of four by 3", r.chain(law), 666666666);
            chained(r, 0, 2, 3, 6);
        }
    }

    /** "THE CHAIN by a LAW (in place of its own)" */
    private static void chainByLaw() {
        for (String law : new String[] {"once", "again", "back"}) {
            for (int pays = 0; pays < 2; pays++) {
                LetterTown x = c.town("person sends;person sends;person sends;knows 0 1;knows 1 0;knows 1 2;knows 2 0;letter 0 0 4 pays "
                    + pays + ";law " + law + ";");
                c.due(law + ": once", x.chain(0), NONE);
                c.due(law + ": again", x.chain(1), ALL);
                chained(x, 0, 1, 2, 0);
                c.due(law + ": back", x.chain(2), 500000000);
                chained(x, 0, 1, 0, 1);
                c.due(law + ": again", x.chain(1), ALL);
                chained(x, 0, 1, 2, 0);
                c.due(law + " stays", x.count(6), law.equals("once") ? 0 : law.equals("again") ? 1 : 2);
            }
        }
    }

    /** "it is kept. NONE: there is none (what is kept stays)" */
    private static void chainIsKept() {
        LetterTown x = c.town(PAIR + "letter 0 0 3;");
        c.thrown("none", Check.NSE, () -> x.chained(0));
        c.due("none by once", x.chain(0), NONE);
        c.thrown("none", Check.NSE, () -> x.chained(0));
        c.due("back", x.chain(2), ALL);
        chained(x, 0, 1, 0);
        c.due("none by again", x.chain(1), NONE);
        chained(x, 0, 1, 0);
        c.thrown("chain 3", Check.NSE, () -> x.chain(3));
        chained(x, 0, 1, 0);
        c.due("a FAULT", Check.tell(x, "person;"), 1);
        chained(x, 0, 1, 0);
        c.due("another town", Check.tell(x, PAIR + "letter 0 0 3;"), 0);
        c.thrown("gone", Check.NSE, () -> x.chained(0));
    }

    /** "SPENT (as everywhere)" */
    private static void spent() {
        LetterTown x = c.town(Check.spent("sends"));
        c.due("judge isn't asked that", judge(x, 0, 1, 0, 1), NONE);
        c.thrown("odds of none", Check.IAE, () -> x.odds());
        c.due("hand", x.hand(5), 1);
        c.thrown("odds of what may not be", Check.IAE, () -> x.odds());
        c.due("NONE is ahead", x.credit(3), NONE);
        c.thrown("no such GUESS is ahead", Check.NSE, () -> x.credit(4));
        c.due("guess", x.guess(3, 0, 0, 0), true);
        c.thrown("credit", Check.IAE, () -> x.credit(3));
        c.due("chain once", x.chain(0), NONE);
        c.due("chain again, which counts less", chainOrSpent(x, 1), chainOrSpent(c.town(Check.spent("sends").replace("back", "again")), 1));
        c.thrown("chain back", Check.IAE, () -> x.chain(2));
        LetterTown y = c.town(Check.spent("sends").replace("back", "once"));
        c.thrown("by that LAW", Check.IAE, () -> y.chain(2));
        c.due("not by its own", y.goes(0), 0);
        LetterTown z = c.town(Check.spent("sends"));
        z.guess(0, 0, 1, 0);
        c.thrown("credit without a ROW", Check.IAE, () -> z.credit(0));
        LetterTown w = c.town(Check.spent("sends").replace("pays 1", "pays 0"));
        c.due("PAYS 0", w.chain(2) > 0, true);
    }

    private static int chainOrSpent(LetterTown x, int law) {
        try {
            return x.chain(law);
        } catch (IllegalArgumentException e) {
            return -2;
        }
    }
}
