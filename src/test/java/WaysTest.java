/** Promises 8 to 14: CASES, GETS, ALL who reckon, LEAST, ONE's BEST, a NAME's worth. */
public final class WaysTest {
    private static final Check c = new Check();
    private static final int NONE = LetterTown.NONE;
    private static final long ALL = 1000000000L;
    // 0 and 1 send it to and fro; what is BEST for 0 at hand 3 depends on what he sent ahead.
    private static final String TO_AND_FRO = "knows 0 1;knows 1 0;law back;";

    public static void main(String[] args) {
        cases();
        laws();
        opening();
        gets();
        best();
        sentAhead();
        all();
        least();
        leastOfPrize();
        one();
        named();
        spent();
        wrongCalls();
        c.end();
    }

    private static void cases() {
        LetterTown x = c.town("person sends;person luck 333;person sends;person sends;"
            + "knows 0 1;knows 0 2;knows 0 3;knows 1 2;letter 1 1 3;law back;");
        c.due("a third, luck cut down", x.opened(1, 2), 110999999);
        c.due("a third", x.opened(2, 2), 333333333);
        c.due("the last has what is left", x.opened(3, 2), 333333334);
        c.due("what isn't opened is sent", x.opened(2, 3), 222333334);
        c.due("0 never opens", x.opened(0, 1) + x.opened(0, 2) + x.opened(0, 3), 0);
        c.due("END", x.goes(0), 222333334);
        c.due("GOES", x.goes(1), 2 * 777666666L + 3 * 222333334L);
        // both ways to (3, hand 3) are one HAND: what comes together is cut once
        x = c.town("person sends;person sends;person sends;person luck 1;knows 0 1 weight 1;knows 0 2 weight 2;"
            + "knows 1 3;knows 2 3;knows 3 0;letter 1 1 4;law back;");
        c.due("HANDS that are alike are one", x.opened(3, 3), 1000000);
        c.due("END", x.opened(0, 4), 999000000);
        x = c.town("person luck 0;person luck 1000;knows 0 1;knows 1 0;law back;letter 1 1 5;");
        c.due("luck 0", x.opened(0, 1), 0);
        c.due("luck 1000", x.opened(1, 2), ALL);
    }

    private static void laws() {
        String two = "person sends;person sends;knows 0 1;knows 1 0;letter 1 1 4;";
        c.due("once", c.town(two).opened(1, 2), ALL);
        c.due("again", c.town(two + "law again;").opened(1, 2), ALL);
        c.due("back", c.town(two + "law back;").opened(1, 4), ALL);
        String ring = "person sends;person sends;person sends;knows 0 1;knows 1 2;knows 2 0;letter 1 1 5;";
        c.due("once: a ring", c.town(ring).opened(2, 3), ALL);
        c.due("again: a ring", c.town(ring + "law again;").opened(1, 5), ALL);
        c.due("another first", c.town(ring + "first 2;law again;").opened(0, 5), ALL);
        c.due("one hand is its END", c.town("person sends;letter 3 1 1;").goes(0), ALL);
        c.due("opened by who may send to nobody is no END", c.town("person sends;").goes(0), 0);
    }

    private static void opening() {
        String text = "person sends;person opens 10;person sends;knows 0 1;knows 1 2;letter 9 2 3;";
        LetterTown x = c.town(text + "wax 4;");
        c.due("felt 8", x.goes(1), 3 * ALL);
        c.due("feeling 1: felt 11", x.feeling(1), 2 * ALL);
        c.due("feeling 4: felt 8", x.feeling(4), 3 * ALL);
        c.due("feeling 5: felt 10", x.feeling(5), 2 * ALL);
        c.due("feeling 11", x.feeling(11), 2 * ALL);
        c.due("feeling 12: felt 0", x.feeling(12), 3 * ALL);
        c.due("feeling 99", x.feeling(99), 3 * ALL);
        c.due("wax stays", x.count(7), 4);
        c.due("goes stays", x.goes(1), 3 * ALL);
        c.thrown("feeling 0", Check.IAE, () -> x.feeling(0));
        c.thrown("feeling 100", Check.IAE, () -> x.feeling(100));
        c.thrown("feeling of none", Check.NSE, () -> new LetterTown().feeling(0));
        c.due("opens at 0", c.town("person opens 0;person sends;knows 0 1;letter 0 0 2;").opened(0, 1), ALL);
    }

    private static void gets() {
        String text = "person sends;person sends;person sends;knows 0 1;knows 0 2 weight 2;knows 1 0;law back;";
        LetterTown x = c.town(text + "letter 0 1 3;");
        c.due("cut towards less", x.gets(0), -334);
        c.due("of a sender", x.gets(1), -334);
        c.due("of an opener", x.gets(2), 666);
        x = c.town(text + "letter 0 1 3 pays 3;");
        c.due("pays the first sender", x.gets(0), 666);
        c.due("pays the next sender", x.gets(1), 666);
        c.due("pays no opener", x.gets(2), 666);
        x = c.town(text + "letter 0 1 3 prize 7;");
        c.due("prize at hand HANDS alone", x.gets(0), (1000 + 7000 - 2000) / 3);
        c.due("no prize ahead", x.gets(2), 666);
        c.due("one hand", c.town("person sends;letter 4 1 1 prize 5 pays 6;").gets(0), 9000);
        x = c.town("person luck 250;person sends;knows 0 1;letter 2 3 2 prize 9 pays 4;");
        c.due("of luck", x.gets(0), (2000 * 250 + 1000 * 750) / 1000);
        c.due("of the other", x.gets(1), 14000 * 750 / 1000);
        x = c.town("person luck 1;person sends;knows 0 1;letter 0 1 2;");
        c.due("of luck, below nothing", x.gets(0), -999);
        x = c.town("person luck 999;person sends;knows 0 1;letter 0 1 2 pays 9;");
        c.due("of luck, nearly sure", x.gets(0), 8);
        c.due("of luck, nearly sure", x.gets(1), 1);
        c.due("of luck, nearly sure", x.goes(0), 1000000);
    }

    private static void best() {
        String people = "person best;person sends;person sends;knows 0 2;knows 0 1;";
        c.due("like it is opened", c.town(people + "letter 2 1 2 pays 3;").opened(0, 1), ALL);
        LetterTown x = c.town(people + "letter 1 1 2 pays 3;");
        c.due("sent to the least of like ones", x.opened(1, 2), ALL);
        c.due("gets", x.gets(0), 2000);
        x = c.town("person best name 1;person sends;knows 0 1;letter 2 1 2 pays 3;");
        c.due("a name", x.goes(0), ALL);
        c.due("is no penny", x.gets(0), 2000);
        x = c.town("person best;person opens 2;person sends;knows 0 1;knows 0 2;knows 1 0;knows 2 0;letter 1 1 3;law back;");
        c.due("to whom it is most", x.opened(0, 3), ALL);
        c.due("back by 2", x.gets(2), -1000);
        c.due("weights are nothing to who reckons", c.town("person best;person sends;person sends;"
            + "knows 0 1;knows 0 2 weight 99;letter 1 1 2 pays 3;").opened(1, 2), ALL);
    }

    private static void sentAhead() {
        LetterTown x = c.town("person best;person sends;" + TO_AND_FRO + "letter 3 1 4 pays 4;");
        c.due("sends again for what he sent ahead", x.goes(0), ALL);
        c.due("gets(0)", x.gets(0), 6000);
        c.due("gets(1)", x.gets(1), 9000);
        x = c.town("person best;person sends;" + TO_AND_FRO + "letter 3 1 4 pays 3;");
        c.due("like it is opened", x.opened(0, 3), ALL);
        c.due("gets(0)", x.gets(0), 4000);
        c.due("gets(1)", x.gets(1), -1000);
    }

    private static void all() {
        LetterTown x = c.town("person sends;person sends;" + TO_AND_FRO + "letter 3 1 4 pays 4;");
        c.due("all: who", x.all(0), 1);
        c.due("all: at", x.all(1), 4);
        x = c.town("person sends;person sends;" + TO_AND_FRO + "letter 3 1 4 pays 3;");
        c.due("all: who", x.all(0), 0);
        c.due("all: at", x.all(1), 1);
        x = c.town("person best name 9;person luck 0;knows 0 1;knows 1 0;letter 5 0 3;law back;");
        c.due("a name counts, of SORT 3: who", x.all(0), 1);
        c.due("a name counts, of SORT 3: at", x.all(1), 2);
        x = c.town("person opens 9;person luck 900;knows 0 1;knows 1 0;letter 5 0 3;law back;");
        c.due("no name of other SORTS", x.all(1), 1);
        c.due("sorts stay", x.person(0, 0) * 10 + x.person(1, 0), 2);
    }

    private static void least() {
        LetterTown x = c.town("person sends;person sends;" + TO_AND_FRO + "letter 3 1 4;");
        c.due("least pays", x.least(true, 0, 10, 1), 4);
        c.due("least pays from 5", x.least(true, 5, 10, 1), 5);
        c.due("least pays by 3", x.least(true, 0, 9, 3), 6);
        c.due("none", x.least(true, 0, 3, 1), NONE);
        c.due("of one number", x.least(true, 4, 4, 9999), 4);
        c.due("step past to", x.least(true, 3, 4, 2), NONE);
        c.due("60 of them", x.least(true, 0, 59, 1), 4);
        c.due("60 of them", x.least(true, 0, 9999, 167), 167);
        c.due("pays stay", x.count(5), 0);
        c.thrown("61 of them", Check.IAE, () -> x.least(true, 0, 60, 1));
        c.thrown("61 of them", Check.IAE, () -> x.least(true, 0, 9999, 166));
        c.thrown("from", Check.IAE, () -> x.least(true, -1, 5, 1));
        c.thrown("to", Check.IAE, () -> x.least(true, 9990, 10000, 1));
        c.thrown("from above to", Check.IAE, () -> x.least(true, 6, 5, 1));
        c.thrown("step", Check.IAE, () -> x.least(true, 0, 5, 0));
        c.thrown("step", Check.IAE, () -> x.least(false, 0, 5, -1));
        c.thrown("no people", Check.NSE, () -> new LetterTown().least(true, 6, 5, 0));
    }

    private static void leastOfPrize() {
        LetterTown x = c.town("person sends;person best name 100;knows 0 1;knows 1 0;letter 5 0 3 prize 3;law back;");
        c.due("least prize", x.least(false, 0, 9, 1), 1);
        c.due("none", x.least(false, 0, 0, 1), NONE);
        c.due("all by its own prize", x.all(1), 3);
        c.due("prize stays", x.count(4), 3);
        c.due("one hand", c.town("person sends;letter 1 1 1;").least(false, 7, 9, 1), 7);
    }

    private static void one() {
        LetterTown x = c.town("person sends;person sends;" + TO_AND_FRO + "letter 1 1 5;");
        c.due("n", x.one(1, 10, 1, 0), 3);
        c.due("gets", x.one(1, 10, 1, 1), 3000);
        c.due("n by 2", x.one(1, 10, 2, 0), 4);
        c.due("n to 2", x.one(1, 2, 1, 0), 0);
        c.due("gets to 2", x.one(1, 2, 1, 1), 2000);
        c.due("n by 5", x.one(1, 10, 5, 0), 0);
        c.due("60 of them", x.one(1, 59, 1, 0), 3);
        c.due("to 9999", x.one(1, 9999, 170, 0), 0);
        c.due("to 9999, gets", x.one(1, 9999, 9999, 1), 2000);
        c.due("of the first", x.one(0, 20, 1, 0), 4);
        c.due("gets of the first", x.one(0, 20, 1, 1), 3000);
        c.due("sort stays", x.person(1, 0), 1);
        c.thrown("61 of them", Check.IAE, () -> x.one(1, 60, 1, 0));
        c.thrown("to", Check.IAE, () -> x.one(1, -1, 1, 0));
        c.thrown("to", Check.IAE, () -> x.one(1, 10000, 9999, 0));
        c.thrown("step", Check.IAE, () -> x.one(1, 5, 0, 0));
        c.thrown("what", Check.NSE, () -> x.one(1, 5, 0, 2));
        c.thrown("what", Check.NSE, () -> x.one(1, 5, 1, -1));
        c.thrown("person", Check.NSE, () -> x.one(2, 5, 0, 0));
        LetterTown y = c.town("person sends;person opens 3;person sends;knows 0 1;letter 1 1 5;");
        c.due("one who never has it", y.one(2, 50, 1, 0) + y.one(2, 50, 1, 1), 0);
        LetterTown w = c.town("person sends;person sends;" + TO_AND_FRO + "letter 1 1 5;wax 3;");
        c.due("by what is felt", w.one(1, 10, 1, 0), 1);
        c.due("gets by what is felt", w.one(1, 10, 1, 1), 3000);
    }

    private static void named() {
        String people = "person sends;person sends;knows 0 1;";
        c.due("like: a penny more", c.town(people + "letter 2 1 2 pays 3;").named(0), 1);
        c.due("more: none", c.town(people + "letter 2 1 2 pays 4;").named(0), 0);
        c.due("less", c.town(people + "letter 2 1 2 pays 2;").named(0), 2);
        c.due("less by a part", c.town("person sends;person luck 500;person sends;knows 0 1;knows 1 2;"
            + "letter 2 1 3 pays 3;").named(0), 2);
        LetterTown x = c.town(people + "letter 9999 99 2;");
        c.due("above 9999", x.named(0), 10099);
        c.due("may not", x.named(1), NONE);
        c.due("one hand", c.town(people + "letter 5 1 1;").named(0), NONE);
        c.due("his own name is nothing", c.town("person best name 50;person sends;knows 0 1;letter 2 1 2;").named(0), 4);
        // at hand 3 he opens, his name being 0 there, though it would have him send at hand 1
        c.due("nor at later hands", c.town("person best name 50;person sends;" + TO_AND_FRO + "letter 3 9 4;").named(0), 0);
        c.thrown("person", Check.NSE, () -> x.named(2));
        c.thrown("person", Check.NSE, () -> x.named(-1));
    }

    private static void spent() {
        LetterTown x = c.town(Check.full("sends"));
        c.due("20,000 HANDS: END", x.goes(0), ALL);
        c.due("20,000 HANDS: GOES", x.goes(1), 12 * ALL);
        c.due("20,000 HANDS: all", x.all(1), 1);
        LetterTown y = c.town(Check.spent("sends"));
        c.thrown("opened", Check.IAE, () -> y.opened(0, 1));
        c.thrown("goes", Check.IAE, () -> y.goes(0));
        c.thrown("goes", Check.IAE, () -> y.goes(1));
        c.thrown("gets", Check.IAE, () -> y.gets(5));
        c.thrown("all", Check.IAE, () -> y.all(0));
        c.thrown("one", Check.IAE, () -> y.one(0, 5, 1, 0));
        c.thrown("named", Check.IAE, () -> y.named(0));
        c.thrown("feeling", Check.IAE, () -> y.feeling(3));
        c.thrown("least of prize", Check.IAE, () -> y.least(false, 0, 5, 1));
        c.thrown("least of pays, 0 is not enough", Check.IAE, () -> y.least(true, 0, 5, 1));
        c.thrown("NoSuchElement is ahead", Check.NSE, () -> y.opened(0, 13));
        c.thrown("NoSuchElement is ahead", Check.NSE, () -> y.gets(6));
        c.thrown("NoSuchElement is ahead", Check.NSE, () -> y.all(2));
        LetterTown z = c.town(Check.spent("best name 9999"));
        c.due("least of pays, 0 is enough", z.least(true, 0, 5, 1), 0);
        c.due("another town is not", Check.tell(z, "person sends;letter 1 1 1;"), 0);
        c.due("goes", z.goes(0), ALL);
    }

    private static void wrongCalls() {
        LetterTown x = c.town("person sends;person sends;letter 1 1 3;");
        c.thrown("opened hand 0", Check.NSE, () -> x.opened(0, 0));
        c.thrown("opened hand 4", Check.NSE, () -> x.opened(0, 4));
        c.thrown("opened person 2", Check.NSE, () -> x.opened(2, 1));
        c.thrown("opened person -1", Check.NSE, () -> x.opened(-1, 1));
        c.thrown("goes 2", Check.NSE, () -> x.goes(2));
        c.thrown("goes -1", Check.NSE, () -> x.goes(-1));
        c.thrown("gets 2", Check.NSE, () -> x.gets(2));
        c.thrown("gets -1", Check.NSE, () -> x.gets(-1));
        c.thrown("all 2", Check.NSE, () -> x.all(2));
        c.thrown("all -1", Check.NSE, () -> x.all(-1));
        LetterTown y = new LetterTown();
        c.thrown("goes of none", Check.NSE, () -> y.goes(0));
        c.thrown("all of none", Check.NSE, () -> y.all(0));
        c.thrown("opened of none", Check.NSE, () -> y.opened(0, 1));
        c.thrown("named of none", Check.NSE, () -> y.named(0));
        c.thrown("one of none", Check.NSE, () -> y.one(0, 5, 1, 0));
    }
}
