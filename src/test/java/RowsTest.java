/** Promises 15 to 22: ROWS, ODDS, GUESSES and their CREDIT, THE CHAIN. */
public final class RowsTest {
    private static final Check c = new Check();
    private static final int NONE = LetterTown.NONE;
    private static final int ALL = 1000000000;

    public static void main(String[] args) {
        hand();
        judge();
        odds();
        oddsOfSorts();
        ended();
        guess();
        credit();
        creditOfBest();
        chain();
        chainKept();
        spent();
        c.end();
    }

    private static void row(LetterTown x, int... people) {
        for (int i = 0; i < people.length; i++) {
            c.due("hand " + people[i], x.hand(people[i]), i + 1);
        }
    }

    private static int oddsOf(LetterTown x, int... people) {
        row(x, people);
        int odds = x.odds();
        x.ended();
        return odds;
    }

    private static int judgeOf(LetterTown x, int... people) {
        row(x, people);
        int first = x.judge();
        x.ended();
        return first;
    }

    private static void hand() {
        LetterTown x = c.town("person sends;person sends;");
        c.thrown("hand 2", Check.NSE, () -> x.hand(2));
        c.thrown("hand -1", Check.NSE, () -> x.hand(-1));
        for (int i = 1; i <= 20; i++) {
            c.due("hand", x.hand(i % 2), i);
        }
        c.due("the 21st", x.hand(0), NONE);
        c.due("the 22nd", x.hand(1), NONE);
        c.thrown("no such person is ahead", Check.NSE, () -> x.hand(2));
        c.due("refused", x.count(14), 2);
        c.due("hands", x.count(10), 20);
    }

    private static void judge() {
        String ring = "person sends;person sends;person sends;knows 0 1;knows 1 2;knows 2 0;knows 1 0;letter 1 1 4;";
        LetterTown x = c.town(ring);
        c.due("none", x.judge(), NONE);
        c.due("another first", judgeOf(x, 1), 1);
        c.due("another first is first", judgeOf(x, 2, 2), 1);
        c.due("all may be", judgeOf(x, 0, 1, 2), NONE);
        c.due("unknown", judgeOf(x, 0, 2), 2);
        c.due("himself", judgeOf(x, 0, 0), 2);
        c.due("once: has had it", judgeOf(x, 0, 1, 0), 3);
        c.due("once: has had it", judgeOf(x, 0, 1, 2, 0), 4);
        x = c.town(ring + "law again;");
        c.due("again: it came from him", judgeOf(x, 0, 1, 0), 3);
        c.due("again: to one who had it", judgeOf(x, 0, 1, 2, 0), NONE);
        c.due("again: behind its END", judgeOf(x, 0, 1, 2, 0, 1), 5);
        x = c.town(ring + "law back;first 1;");
        c.due("back: to him it came from", judgeOf(x, 1, 0, 1, 0), NONE);
        c.due("back: behind its END", judgeOf(x, 1, 0, 1, 0, 1, 1), 5);
    }

    private static void odds() {
        LetterTown x = c.town("person sends;person luck 333;person sends;person sends;"
            + "knows 0 1;knows 0 2;knows 0 3;knows 1 2;letter 1 1 3;law back;");
        c.due("none told", x.odds(), 0);
        c.due("to the END, each part cut down", oddsOf(x, 0, 1, 2), 222333333);
        c.due("opened by luck", oddsOf(x, 0, 1), 110999999);
        c.due("opened, as he may send to nobody", oddsOf(x, 0, 3), 333333333);
        c.due("he never opens", oddsOf(x, 0), 0);
        c.due("may not be", oddsOf(x, 0, 2, 1), 0);
        c.due("another first", oddsOf(x, 1), 0);
        c.due("behind its END", oddsOf(x, 0, 1, 2, 3), 0);
        c.due("one hand", oddsOf(c.town("person luck 3;letter 1 1 1;"), 0), ALL);
        x = c.town("person sends;person sends;person sends;knows 0 1 weight 98;knows 0 2;letter 1 1 2;");
        c.due("by weights", oddsOf(x, 0, 1), 989898989);
        c.due("by weights", oddsOf(x, 0, 2), 10101010);
    }

    private static void oddsOfSorts() {
        LetterTown x = c.town("person opens 5;person best;person best name 9;person sends;"
            + "knows 0 1;knows 1 0;knows 1 2;knows 2 3;knows 2 0;letter 4 1 5 pays 1;law back;");
        c.due("sends below N", oddsOf(x, 0), 0);
        c.due("best opens", oddsOf(x, 0, 1), ALL);
        c.due("best doesn't send", oddsOf(x, 0, 1, 0), 0);
        c.due("opens at N", oddsOf(c.town("person opens 4;person sends;knows 0 1;letter 4 1 5;"), 0), ALL);
        LetterTown y = c.town("person best name 9;person sends;person sends;knows 0 1 weight 9;knows 0 2;knows 2 0;letter 2 1 3 prize 1;law back;");
        c.due("to the best one", oddsOf(y, 0, 2, 0), ALL);
        c.due("not to another", oddsOf(y, 0, 1), 0);
    }

    private static void ended() {
        LetterTown x = c.town("person sends;person sends;");
        row(x, 0, 1);
        for (int i = 1; i <= 20; i++) {
            c.due("ended", x.ended(), i);
            c.due("empty", x.count(10), 0);
        }
        row(x, 0);
        c.due("the 21st", x.ended(), NONE);
        c.due("it stays", x.count(10), 1);
        c.due("rows", x.count(11), 20);
        c.due("not refused", x.count(14), 0);
    }

    private static void guess() {
        LetterTown x = c.town("person sends;person sends;knows 0 1;letter 1 1 3;");
        c.due("sort -1", x.guess(0, 0, -1, 0), false);
        c.due("sort 4", x.guess(0, 0, 4, 0), false);
        c.due("opens at -1", x.guess(0, 0, 0, -1), false);
        c.due("opens at 10000", x.guess(0, 0, 0, 10000), false);
        c.due("luck 1001", x.guess(0, 0, 2, 1001), false);
        c.due("luck -1", x.guess(0, 0, 2, -1), false);
        c.due("name 10000", x.guess(0, 0, 3, 10000), false);
        c.due("name -1", x.guess(0, 0, 3, -1), false);
        c.due("nothing was told", x.credit(0), NONE);
        c.due("opens at 9999", x.guess(0, 0, 0, 9999), true);
        c.due("luck 1000", x.guess(1, 1, 2, 1000), true);
        c.due("name 9999", x.guess(2, 1, 3, 9999), true);
        c.due("sends, n for nothing", x.guess(3, 1, 1, -5), true);
        c.due("sends, n for nothing", x.guess(3, 1, 1, 77777), true);
        c.thrown("guess 4", Check.NSE, () -> x.guess(4, 0, 9, 0) ? 1 : 0);
        c.thrown("guess -1", Check.NSE, () -> x.guess(-1, 0, 0, 0) ? 1 : 0);
        c.thrown("person 2", Check.NSE, () -> x.guess(0, 2, 9, 0) ? 1 : 0);
        c.thrown("person -1", Check.NSE, () -> x.guess(0, -1, 0, 0) ? 1 : 0);
        c.thrown("credit 4", Check.NSE, () -> x.credit(4));
        c.thrown("credit -1", Check.NSE, () -> x.credit(-1));
        c.due("town stays", x.person(0, 0) * 10 + x.person(1, 0), 11);
    }

    private static void credit() {
        LetterTown x = c.town("person sends;person sends;person sends;knows 0 1;knows 1 2;letter 1 1 3;");
        x.guess(0, 1, 2, 500);
        c.due("alone", x.credit(0), 1000000);
        x.guess(2, 1, 2, 200);
        x.guess(3, 1, 1, 0);
        c.due("a third", x.credit(0), 333333);
        c.due("nothing told", x.credit(1), NONE);
        row(x, 0, 1, 2);
        c.due("a row that isn't ended is nothing", x.credit(2), 333333);
        x.ended();
        c.due("5 of 23", x.credit(0), 217391);
        c.due("8 of 23", x.credit(2), 347826);
        c.due("10 of 23", x.credit(3), 434782);
        row(x, 0, 1);
        x.ended();
        // 217391 by 500000, 347826 by 200000, 434782 by 1
        long all = 217391L * 500000 + 347826L * 200000 + 434782L;
        c.due("the next row", x.credit(0), 217391L * 500000 * 1000000 / all);
        c.due("the next row", x.credit(2), 347826L * 200000 * 1000000 / all);
        c.due("1 at least", x.credit(3), 434782L * 1000000 / all);
        x.ended();
        c.due("an empty row is as likely by all", x.credit(0), 217391L * 500000 * 1000000 / all * 1000000 / 999999);
        LetterTown y = c.town("person sends;person sends;knows 0 1;letter 1 1 3;");
        for (int g = 0; g < 4; g++) y.guess(g, 0, 1, 0);
        c.due("a quarter", y.credit(3), 250000);
        row(y, 0, 1);
        y.ended();
        y.guess(0, 0, 2, 0);
        y.guess(1, 0, 2, 400);
        y.guess(1, 0, 2, 600);
        c.due("told anew", y.credit(1), 400000L * 1000000 / 3400000);
        c.due("told anew", y.credit(0), 1000000L * 1000000 / 3400000);
    }

    private static void creditOfBest() {
        LetterTown x = c.town("person best;person sends;person sends;knows 0 1;knows 1 2;letter 5 1 3 pays 2;");
        x.guess(0, 1, 1, 0);
        x.guess(1, 0, 3, 9);
        row(x, 0, 1, 2);
        x.ended();
        c.due("as they are, 0 opens: 1 at least", x.credit(0), 0);
        c.due("with a name he sends", x.credit(1), 999999);
    }

    private static void chain() {
        String fan = "person sends;person sends;person sends;person sends;knows 0 2;knows 0 1;knows 1 3;knows 2 3;letter 1 1 3;";
        LetterTown x = c.town(fan);
        for (int law = 0; law < 3; law++) {
            c.due("chain " + law, x.chain(law), 500000000);
            c.due("the row that is first", x.chained(0) * 100 + x.chained(1) * 10 + x.chained(2), 13);
        }
        c.due("law stays", x.count(6), 0);
        LetterTown y = c.town("person sends;person luck 100;person opens 1;person sends;"
            + "knows 0 1 weight 2;knows 0 2 weight 3;knows 0 3;knows 1 0;knows 2 0;knows 3 0;letter 1 1 3;");
        c.due("the surest, none by one who opens", y.chain(2), 300000000 - 1);
        c.due("by 1", y.chained(1), 1);
        c.due("none by another law", y.chain(1), NONE);
        c.due("one hand", c.town("person sends;letter 1 1 1;").chain(0), ALL);
        LetterTown z = c.town("person best;person sends;person sends;knows 0 1 weight 9;knows 0 2;knows 2 0;letter 2 1 3 prize 1;");
        c.due("best by the law", z.chain(2), ALL);
        c.due("best by the law", z.chained(1), 2);
        c.due("best by its own", z.chain(0), NONE);
        c.thrown("law 3", Check.NSE, () -> z.chain(3));
        c.thrown("law -1", Check.NSE, () -> z.chain(-1));
        c.thrown("no people", Check.NSE, () -> new LetterTown().chain(0));
    }

    private static void chainKept() {
        LetterTown x = c.town("person sends;person sends;knows 0 1;knows 1 0;letter 1 1 4;");
        c.thrown("none", Check.NSE, () -> x.chained(0));
        c.due("none by once", x.chain(0), NONE);
        c.thrown("still none", Check.NSE, () -> x.chained(0));
        c.due("back", x.chain(2), ALL);
        c.due("none by again", x.chain(1), NONE);
        for (int i = 0; i < 4; i++) {
            c.due("what is kept stays", x.chained(i), i % 2);
        }
        c.thrown("chained 4", Check.NSE, () -> x.chained(4));
        c.thrown("chained -1", Check.NSE, () -> x.chained(-1));
    }

    private static void spent() {
        LetterTown x = c.town(Check.spent("sends"));
        c.thrown("odds of none", Check.IAE, () -> x.odds());
        row(x, 0, 1, 0);
        c.due("judge", x.judge(), NONE);
        c.thrown("odds", Check.IAE, () -> x.odds());
        x.ended();
        c.due("credit of none", x.credit(0), NONE);
        x.guess(0, 0, 1, 0);
        c.thrown("credit", Check.IAE, () -> x.credit(0));
        c.thrown("chain back", Check.IAE, () -> x.chain(2));
        c.due("chain once", x.chain(0), NONE);
        LetterTown y = c.town(Check.full("sends"));
        c.due("chain back of 20,000 HANDS", y.chain(2) > 0 ? 1 : 0, 1);
    }
}
