/** Promises 1 to 7: the tape, the TEXT and its FAULTS, and what is told. */
public final class TextTest {
    private static final Check c = new Check();
    private static final int NONE = LetterTown.NONE;

    public static void main(String[] args) {
        newObject();
        tape();
        town();
        townAnew();
        tokens();
        faultsOfTokens();
        faultsOfNumbers();
        faultsOfPeople();
        faultsOfLines();
        counts();
        people();
        c.end();
    }

    private static void newObject() {
        LetterTown x = new LetterTown();
        int[] due = {0, 1, 1, 8, 0, 0, 0, 1, 0, 0, 0, 0, 0, 0, 0, 0};
        for (int i = 0; i < due.length; i++) {
            c.due("new count " + i, x.count(i), due[i]);
        }
        c.due("new fault", x.fault(), NONE);
        c.due("new judge", x.judge(), NONE);
        c.due("new odds", x.odds(), 0);
        c.due("new on", x.on(0), NONE);
        c.due("new image", x.image(), false);
        c.due("new restore", x.restore(), false);
        c.due("new ended", x.ended(), 1);
        c.due("new credit", x.credit(0), NONE);
        c.thrown("new person", Check.NSE, () -> x.person(0, 0));
        c.thrown("new gets", Check.NSE, () -> x.gets(0));
        c.thrown("new week", Check.NSE, () -> x.week(0, 0));
        c.thrown("new chained", Check.NSE, () -> x.chained(0));
        c.due("NONE", NONE, -1);
    }

    private static void tape() {
        LetterTown x = new LetterTown();
        // "wax 7;" and blanks, the highest byte of each number first
        c.due("feed", x.feed(0x77617820, 0x373b2020, 0x20202020, 0x0a0a0a0a, 0x20202020), 20);
        c.due("town", x.town(20), 0);
        c.due("wax", x.count(7), 7);
        for (int i = 1; i <= 35; i++) {
            c.due("feed " + i, x.feed(-1, -1, -1, -1, -1), 20 * i);
        }
        c.due("feed 36", x.feed(0x20202020, 0, 0, 0, 0), NONE);
        c.due("tape stays", x.count(9), 700);
        c.due("byte 255 is no token", x.town(700), 1);
        c.due("at its place", x.fault(), 0);
        c.due("tape empty", x.count(9), 0);
        c.due("feed again", x.feed(0, 0, 0, 0, 0), 20);
    }

    private static void town() {
        LetterTown x = new LetterTown();
        Check.feed(x, "person sends;person best name 12;");
        c.due("bytes", x.count(9), 40);
        c.thrown("town -1", Check.IAE, () -> x.town(-1));
        c.thrown("town 41", Check.IAE, () -> x.town(41));
        c.due("bytes stay", x.count(9), 40);
        c.due("no refusal", x.count(13), 0);
        c.due("fault stays", x.fault(), NONE);
        c.due("first bytes only", x.town(13), 0);
        c.due("people", x.count(0), 1);
        c.due("the rest is gone", x.count(9), 0);
        c.due("fault of a text", Check.tell(x, "person sends;;"), 1);
        c.due("its place", x.fault(), 13);
        c.thrown("town 1 of none", Check.IAE, () -> x.town(1));
        c.due("its place stays", x.fault(), 13);
        c.due("refused", x.count(13), 1);
        c.due("people stay", x.count(0), 1);
        c.due("empty text", x.town(0), 0);
        c.due("fault gone", x.fault(), NONE);
        c.due("no people", x.count(0), 0);
        c.due("refused stays", x.count(13), 1);
        c.due("blanks alone", Check.tell(x, " \n  \n"), 0);
        Check.feed(x, "wax 12;");
        c.due("a number cut off by n", x.town(5), 1);
        c.due("its place", x.fault(), 5);
        Check.feed(x, "wax 123;");
        c.due("a number cut off by n can stand", x.town(6), 1);
        c.due("its place", x.fault(), 6);
        Check.feed(x, "law once;law");
        c.due("a word cut off by n", x.town(7), 1);
        c.due("its place", x.fault(), 4);
        Check.feed(x, "person sendsx;");
        c.due("a word cut off by n can stand", x.town(12), 1);
        c.due("its place", x.fault(), 12);
    }

    private static LetterTown busy() {
        LetterTown x = c.town("person sends;person luck 500;knows 0 1;knows 1 0;letter 2 3 3 prize 4 pays 5;law back;wax 2;first 1;");
        x.hand(1);
        x.ended();
        x.hand(1);
        x.guess(0, 0, 0, 5);
        x.theft(1, 1);
        c.due("chain", x.chain(2), 500000000);
        x.begin(5, 0);
        x.on(2);
        x.image();
        for (int i = 0; i < 20; i++) x.hand(0);
        x.theft(1, 9);
        return x;
    }

    private static void townAnew() {
        LetterTown x = busy();
        c.due("fault", Check.tell(x, "person sends;x"), 1);
        int[] stays = {2, 2, 3, 3, 4, 5, 2, 2, 1, 0, 20, 1, 1, 1, 1, 1};
        for (int i = 0; i < stays.length; i++) {
            c.due("all stays: count " + i, x.count(i), stays[i]);
        }
        c.due("chain stays", x.chained(0), 1);
        c.due("weeks stay", x.on(0), 2);
        c.due("image stays", x.restore(), true);
        c.due("guess stays", x.credit(0), 1000000);
        c.due("anew", Check.tell(x, "person sends;person sends;"), 0);
        int[] anew = {2, 1, 1, 8, 0, 0, 0, 1, 0, 0, 0, 0, 0, 1, 1, 1};
        for (int i = 0; i < anew.length; i++) {
            c.due("all anew: count " + i, x.count(i), anew[i]);
        }
        c.due("knows none", x.person(0, 2), 0);
        c.thrown("chain gone", Check.NSE, () -> x.chained(0));
        c.thrown("weeks gone", Check.NSE, () -> x.week(0, 0));
        c.due("none begun", x.on(1), NONE);
        c.due("no image of them", x.image(), false);
        c.due("image gone", x.restore(), false);
        c.due("guess gone", x.credit(0), NONE);
        c.due("theft gone", x.thieves(2), 4);
    }

    private static void read(String text, int code, int place) {
        c.read(text, code, place);
    }

    private static void tokens() {
        read("person\nopens5;person  sends ;knows0 1weight99;", 0, NONE);
        read("person opens 0009;", 0, NONE);
        read("letter0 0 1;", 0, NONE);
        read("letter 9999 99 12 prize 9999 pays 9999;", 0, NONE);
        read("letter 1 2 3 pays 4;", 0, NONE);
        read("letter 1 2 3 prize 4;", 0, NONE);
        read("wax 99;law once;", 0, NONE);
        read("person luck 1000;person opens 9999;person best name 9999;person best;first 3;", 0, NONE);
    }

    private static void faultsOfTokens() {
        read(";", 1, 0);
        read("5", 1, 0);
        read("12345", 1, 0);
        read("  Person sends;", 1, 2);
        read("persons sends;", 1, 0);
        read("personsends;", 1, 0);
        read("person", 1, 6);
        read("person  ", 1, 8);
        read("person opens", 1, 12);
        read("person opens 5", 1, 14);
        read("person opens 5  ", 1, 16);
        read("person opens 5 person", 1, 15);
        read("person opens;", 1, 12);
        read("person opens x;", 1, 13);
        read("person sends 5;", 1, 13);
        read("person sends 12345;", 1, 13);
        read("person luck;", 1, 11);
        read("person best name;", 1, 16);
        read("person best 3;", 1, 12);
        read("person best name 3 name 4;", 1, 19);
        read("person sends name 3;", 1, 13);
        read("person name 3;", 1, 7);
        read("person opens -5;", 1, 13);
        read("person\topens 5;", 1, 6);
        read("person opens " + (char) 233 + ";", 1, 13);
        read("person sends;person sends;knows 0 1 weight;", 1, 42);
        read("person sends;person sends;knows 0 1 wax;", 1, 36);
        read("person sends;person sends;knows 0;", 1, 33);
        read("person sends;person sends;knows;", 1, 31);
        read("letter 1 2;", 1, 10);
        read("letter 1 2 3 pays 4 prize 5;", 1, 20);
        read("letter 1 2 3 prize;", 1, 18);
        read("letter 1 2 3 prize 4 prize 5;", 1, 21);
        read("law;", 1, 3);
        read("law 0;", 1, 4);
        read("law onc;", 1, 4);
        read("law once again;", 1, 9);
        read("wax;", 1, 3);
        read("wax 3 4;", 1, 6);
        read("first;", 1, 5);
        read("person sends;first 0 0;", 1, 21);
        read("weight 3;", 1, 0);
    }

    private static void faultsOfNumbers() {
        read("person opens 12345;", 2, 13);
        read("person opens 00000;", 2, 13);
        read("person luck 1001;", 2, 12);
        read("person best name 10000;", 2, 17);
        read("person sends;person sends;knows 0 1 weight 0;", 2, 43);
        read("person sends;person sends;knows 0 1 weight 100;", 2, 43);
        read("person sends;person sends;knows 00000 1;", 2, 32);
        read("person sends;person sends;knows 0 00001;", 2, 34);
        read("person sends;first 00000;", 2, 19);
        read("letter 10000 1 1;", 2, 7);
        read("letter 1 100 1;", 2, 9);
        read("letter 1 1 0;", 2, 11);
        read("letter 1 1 13;", 2, 11);
        read("letter 1 1 1 prize 10000;", 2, 19);
        read("letter 1 1 1 pays 99999;", 2, 18);
        read("wax 0;", 2, 4);
        read("wax 100;", 2, 4);
        String eight = Check.people(8, "sends");
        read(eight, 0, NONE);
        read(eight + "person x;", 2, eight.length());
        read(eight + " persons;", 1, eight.length() + 1);
    }

    private static void faultsOfPeople() {
        read("knows 0 1;", 3, 6);
        read("person sends;knows 1 0;", 3, 19);
        read("person sends;knows 0 1;person sends;", 3, 21);
        read("person sends;knows 0 9;", 3, 21);
        read("person sends;knows 9999 0;", 3, 19);
        read("first 0;person sends;", 3, 6);
        read("person sends;first 1;", 3, 19);
        read("person sends;knows 0 0;", 4, 21);
        read("person sends;knows 0 0 weight 100;", 4, 21);
        read("person sends;person sends;knows 0 1;knows 1 0;knows 0 1;", 4, 54);
        read("person sends;person sends;knows 0 1 weight 5;knows 0 1 weight 6;", 4, 53);
        read("person sends;person sends;knows 0 1;knows 1 0;", 0, NONE);
    }

    private static void faultsOfLines() {
        read("letter 1 1 1;letter", 5, 13);
        read("law once;law twice;", 5, 9);
        read("wax 3; wax 0;", 5, 7);
        read("person sends;first 0;first 9;", 5, 21);
        read("law once;wax 3;letter 1 1 1;law", 5, 28);
        read("law twice;law once;", 1, 4);
    }

    private static void counts() {
        LetterTown x = c.town("person sends;person best;letter 7 8 9 prize 10 pays 11;law again;wax 12;first 1;");
        int[] due = {2, 7, 8, 9, 10, 11, 1, 12, 1, 0, 0, 0, 0, 0, 0, 0};
        for (int i = 0; i < due.length; i++) {
            c.due("count " + i, x.count(i), due[i]);
        }
        x.feed(0, 0, 0, 0, 0);
        x.hand(0);
        x.ended();
        x.hand(0);
        x.hand(1);
        x.theft(0, 0);
        c.due("tape", x.count(9), 20);
        c.due("row", x.count(10), 2);
        c.due("rows", x.count(11), 1);
        c.due("letters", x.count(12), 1);
        c.thrown("count -1", Check.NSE, () -> x.count(-1));
        c.thrown("count 16", Check.NSE, () -> x.count(16));
    }

    private static void people() {
        LetterTown x = c.town("person opens 40;person sends;person luck 50;person best name 60;person best;"
            + "knows 0 4;knows 0 1 weight 99;knows 4 3 weight 7;");
        int[] sorts = {0, 1, 2, 3, 3};
        int[] numbers = {40, 0, 50, 60, 0};
        int[] knows = {18, 0, 0, 0, 8};
        for (int p = 0; p < 5; p++) {
            c.due("sort " + p, x.person(p, 0), sorts[p]);
            c.due("n " + p, x.person(p, 1), numbers[p]);
            c.due("knows " + p, x.person(p, 2), knows[p]);
        }
        c.due("weight 0 4", x.weight(0, 4), 1);
        c.due("weight 0 1", x.weight(0, 1), 99);
        c.due("weight 1 0", x.weight(1, 0), 0);
        c.due("weight 4 3", x.weight(4, 3), 7);
        c.due("weight 2 2", x.weight(2, 2), 0);
        c.thrown("person 5", Check.NSE, () -> x.person(5, 0));
        c.thrown("person -1", Check.NSE, () -> x.person(-1, 0));
        c.thrown("person what 3", Check.NSE, () -> x.person(0, 3));
        c.thrown("person what -1", Check.NSE, () -> x.person(0, -1));
        c.thrown("weight 5 0", Check.NSE, () -> x.weight(5, 0));
        c.thrown("weight 0 5", Check.NSE, () -> x.weight(0, 5));
        c.thrown("weight 0 -1", Check.NSE, () -> x.weight(0, -1));
    }
}
