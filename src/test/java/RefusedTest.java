import java.util.ArrayList;
import java.util.List;

/**
 * Calls that are refused, in full, empty and SPENT towns: what they answer, and that nothing else comes of them.
 * Each is made on one of two objects alike; both must answer the same then, but for what the document says.
 */
public final class RefusedTest {
    private static final Check c = new Check();
    private static final int NONE = LetterTown.NONE;
    private static final int NOTHING = -1;
    private static final String TOWN = "person luck 300;person best name 2;person sends;person opens 7;knows 0 1;knows 0 2 weight 3;"
        + "knows 1 2;knows 2 3;knows 2 0;knows 3 0;letter 3 2 5 prize 4 pays 1;law again;wax 2;";

    private interface Making { LetterTown made(); }
    private interface Call { long of(LetterTown x); }

    public static void main(String[] args) {
        ofFull();
        ofFullByNumbers();
        ofHalf();
        ofNew();
        ofSpent();
        faults();
        asked();
        c.end();
    }

    /** All that can be seen without changing it. */
    private static List<Long> seen(LetterTown x) {
        List<Long> s = new ArrayList<>();
        for (int i = 0; i < 16; i++) s.add((long) x.count(i));
        s.add((long) x.fault());
        int people = x.count(0);
        for (int p = 0; p < people; p++) {
            for (int i = 0; i < 3; i++) s.add((long) x.person(p, i));
            for (int q = 0; q < people; q++) s.add((long) x.weight(p, q));
            add(s, x, p, (y, i) -> y.gets(i));
        }
        add(s, x, 0, (y, i) -> y.goes(i));
        add(s, x, 1, (y, i) -> y.goes(i));
        add(s, x, 0, (y, i) -> y.all(i));
        add(s, x, 0, (y, i) -> y.odds());
        s.add((long) x.judge());
        for (int g = 0; g < 4; g++) add(s, x, g, (y, i) -> y.credit(i));
        for (int i = 0; i < 5; i++) {
            add(s, x, i, (y, at) -> y.chained(at));
            s.add((long) x.thieves(i));
        }
        for (int week : new int[] {0, 1, 39, 40, 99}) {
            for (int i = 0; i < 3; i++) {
                int what = i;
                add(s, x, week, (y, at) -> y.week(at, what));
            }
        }
        return s;
    }

    private interface Asked { long of(LetterTown x, int i); }

    private static void add(List<Long> s, LetterTown x, int i, Asked asked) {
        try {
            s.add(asked.of(x, i));
        } catch (java.util.NoSuchElementException e) {
            s.add(-1000000001L);
        } catch (IllegalArgumentException e) {
            s.add(-1000000002L);
        }
    }

    /** What can be seen only by going on: the ROW's next hand, the weeks behind, the image, the tape. */
    private static List<Long> goingOn(LetterTown x) {
        List<Long> s = new ArrayList<>();
        add(s, x, 0, (y, i) -> y.hand(i));
        add(s, x, 0, (y, i) -> y.ended());
        add(s, x, 3, (y, i) -> y.on(i));
        for (int i = 0; i < 2; i++) {
            s.addAll(seen(x));
            s.add(x.restore() ? 1L : 0L);
            add(s, x, 7, (y, n) -> y.on(n));
        }
        add(s, x, 0, (y, i) -> y.town(y.count(9)));
        s.addAll(seen(x));
        return s;
    }

    /** The place in all that is seen that may differ, and by how much: STATUS that is 1 more. */
    private static void alike(String what, List<Long> was, List<Long> due, int status) {
        c.due(what + ": as many", was.size(), due.size());
        for (int i = 0; i < Math.min(was.size(), due.size()); i++) {
            long more = status >= 0 && i == 13 + status ? 1 : 0;
            c.due(what + ": seen " + i, was.get(i), due.get(i) + more);
        }
    }

    private static String answer(LetterTown x, Call call) {
        try {
            return Long.toString(call.of(x));
        } catch (RuntimeException e) {
            return e.getClass().getName();
        }
    }

    private static void refused(String what, Making making, String due, int status, Call call) {
        LetterTown x = making.made();
        LetterTown twin = making.made();
        String was = answer(x, call);
        c.due(what + " answered " + was + " for " + due, was.equals(due), true);
        alike(what, seen(x), seen(twin), status);
        if (status < 0) {
            alike(what + ", and on", goingOn(x), goingOn(twin), NOTHING);
        }
    }

    private static void noSuch(String what, Making making, Call call) {
        refused(what, making, Check.NSE, NOTHING, call);
    }

    private static void illegal(String what, Making making, Call call) {
        refused(what, making, Check.IAE, NOTHING, call);
    }

    /** 20 ROWS, 20 hands, 30 letters, 100 weeks, an image of 40, THE CHAIN, two GUESSES and 700 bytes. */
    private static LetterTown full() {
        LetterTown x = new LetterTown();
        Check.tell(x, "person sends;x");
        Check.tell(x, TOWN);
        for (int i = 0; i < 20; i++) {
            x.hand(0);
            if (i % 2 == 0) x.hand(1 + i / 2 % 2);
            x.ended();
        }
        for (int i = 0; i < 20; i++) x.hand(i % 3);
        for (int i = 0; i < 30; i++) x.theft(i % 3 == 0 ? 7 : 0, i % 3 == 0 ? 1 : 0);
        x.hand(0);
        x.theft(1, 1);
        x.guess(0, 0, 2, 500);
        x.guess(2, 1, 1, 0);
        x.chain(1);
        x.begin(5, 2);
        x.on(40);
        x.image();
        x.on(60);
        for (int i = 0; i < 35; i++) x.feed(0x20202020, 0x20202020, 0x20202020, 0x20202020, 0x20202020);
        return x;
    }

    private static void ofFull() {
        Making full = RefusedTest::full;
        LetterTown x = full();
        int[] due = {4, 3, 2, 5, 4, 1, 1, 2, 0, 700, 20, 20, 30, 1, 1, 1};
        for (int i = 0; i < due.length; i++) c.due("full: count " + i, x.count(i), due[i]);
        c.due("full: weeks", x.on(0), 100);
        refused("feed: 720", full, "-1", NOTHING, y -> y.feed(0x21212121, 0, 0, 0, 0));
        illegal("town 701", full, y -> y.town(701));
        illegal("town -1", full, y -> y.town(-1));
        refused("hand: 21", full, "-1", 1, y -> y.hand(0));
        noSuch("hand 4, 20 being told", full, y -> y.hand(4));
        refused("ended: 21", full, "-1", NOTHING, y -> y.ended());
        refused("theft: 31", full, "-1", 2, y -> y.theft(1, 1));
        refused("theft: 31, pennies 9", full, "-1", 2, y -> y.theft(1, 9));
        illegal("theft: bits, 31", full, y -> y.theft(16, 1));
        refused("on: 101", full, "-1", NOTHING, y -> y.on(1));
        illegal("on 61: 161", full, y -> y.on(61));
        illegal("on -1", full, y -> y.on(-1));
        illegal("begin, out 21", full, y -> { y.begin(1, 21); return 0; });
        illegal("begin, out -1", full, y -> { y.begin(1, -1); return 0; });
        refused("chain: none", full, "-1", NOTHING, y -> y.chain(0));
        noSuch("chain 3", full, y -> y.chain(3));
        noSuch("chain -1", full, y -> y.chain(-1));
        refused("guess: SORT 4", full, "0", NOTHING, y -> y.guess(0, 0, 4, 0) ? 1 : 0);
        refused("guess: SORT -1", full, "0", NOTHING, y -> y.guess(0, 0, -1, 0) ? 1 : 0);
        refused("guess: N 10000", full, "0", NOTHING, y -> y.guess(1, 0, 0, 10000) ? 1 : 0);
        refused("guess: luck 1001", full, "0", NOTHING, y -> y.guess(2, 1, 2, 1001) ? 1 : 0);
        refused("guess: N -1", full, "0", NOTHING, y -> y.guess(3, 1, 3, -1) ? 1 : 0);
        noSuch("guess 4", full, y -> y.guess(4, 0, 1, 0) ? 1 : 0);
        noSuch("guess -1", full, y -> y.guess(-1, 0, 1, 0) ? 1 : 0);
        noSuch("guess of PERSON 4", full, y -> y.guess(0, 4, 1, 0) ? 1 : 0);
        refused("credit: none", full, "-1", NOTHING, y -> y.credit(1));
    }

    private static void ofFullByNumbers() {
        Making full = RefusedTest::full;
        for (int far : new int[] {-1, 4}) {
            noSuch("person " + far, full, y -> y.person(far, 0));
            noSuch("weight " + far, full, y -> y.weight(far, 0));
            noSuch("weight to " + far, full, y -> y.weight(0, far));
            noSuch("opened " + far, full, y -> y.opened(far, 1));
            noSuch("gets " + far, full, y -> y.gets(far));
            noSuch("one " + far, full, y -> y.one(far, 5, 1, 0));
            noSuch("named " + far, full, y -> y.named(far));
            noSuch("hand " + far, full, y -> y.hand(far));
            noSuch("credit " + far, full, y -> y.credit(far));
            noSuch("two " + far, full, y -> y.two(far, 0));
            noSuch("two with " + far, full, y -> y.two(0, far));
            noSuch("goes " + far, full, y -> y.goes(far));
            noSuch("all " + far, full, y -> y.all(far));
            noSuch("one what " + far, full, y -> y.one(0, 5, 1, far));
            noSuch("person what " + far, full, y -> y.person(0, far));
            noSuch("week what " + far, full, y -> y.week(0, far));
        }
        for (int far : new int[] {-1, 100}) {
            noSuch("week " + far, full, y -> y.week(far, 0));
            noSuch("count " + far, full, y -> y.count(far));
            noSuch("chained " + far, full, y -> y.chained(far));
            noSuch("thieves " + far, full, y -> y.thieves(far));
        }
        noSuch("opened at 6", full, y -> y.opened(0, 6));
        noSuch("opened at 0", full, y -> y.opened(0, 0));
        illegal("feeling 0", full, y -> y.feeling(0));
        illegal("feeling 100", full, y -> y.feeling(100));
        illegal("luck", full, y -> y.luck(5, 6, 7));
        for (int[] w : new int[][] {{0, 60, 1}, {-1, 5, 1}, {0, 10000, 9999}, {6, 5, 1}, {0, 5, 0}}) {
            illegal("least", full, y -> y.least(true, w[0], w[1], w[2]));
            illegal("least", full, y -> y.least(false, w[0], w[1], w[2]));
        }
        for (int[] w : new int[][] {{60, 1}, {-1, 1}, {10000, 9999}, {5, 0}}) {
            illegal("one", full, y -> y.one(1, w[0], w[1], 0));
        }
    }

    /** Room is left, THE CHAIN isn't kept, and there is no image. */
    private static LetterTown half() {
        LetterTown x = new LetterTown();
        Check.tell(x, TOWN);
        x.hand(0);
        x.ended();
        x.hand(0);
        x.theft(7, 1);
        x.begin(5, 1);
        x.on(41);
        Check.feed(x, "person sends;");
        return x;
    }

    private static void ofHalf() {
        Making half = RefusedTest::half;
        refused("on 60: 101", half, "-1", NOTHING, y -> y.on(60));
        refused("theft: pennies 9", half, "-1", 2, y -> y.theft(1, 9));
        refused("theft: pennies -1", half, "-1", 2, y -> y.theft(1, -1));
        illegal("theft: bits", half, y -> y.theft(16, 1));
        illegal("town 21", half, y -> y.town(21));
        refused("restore: none", half, "0", NOTHING, y -> y.restore() ? 1 : 0);
        noSuch("chained", half, y -> y.chained(0));
        refused("credit: none", half, "-1", NOTHING, y -> y.credit(0));
        refused("chain: none", half, "-1", NOTHING, y -> y.chain(0));
        noSuch("week 41", half, y -> y.week(41, 0));
    }

    private static void ofNew() {
        Making none = LetterTown::new;
        refused("on", none, "-1", NOTHING, y -> y.on(1));
        illegal("on 61", none, y -> y.on(61));
        refused("image", none, "0", NOTHING, y -> y.image() ? 1 : 0);
        refused("restore", none, "0", NOTHING, y -> y.restore() ? 1 : 0);
        illegal("begin", none, y -> { y.begin(1, 1); return 0; });
        illegal("theft", none, y -> y.theft(1, 0));
        refused("theft: pennies", none, "-1", 2, y -> y.theft(0, 9));
        illegal("town 1", none, y -> y.town(1));
        noSuch("goes", none, y -> y.goes(0));
        noSuch("all", none, y -> y.all(1));
        noSuch("least", none, y -> y.least(true, 0, 5, 1));
        noSuch("one", none, y -> y.one(0, 5, 1, 0));
        noSuch("chain", none, y -> y.chain(0));
        noSuch("feeling", none, y -> y.feeling(5));
        noSuch("hand", none, y -> y.hand(0));
        noSuch("guess", none, y -> y.guess(0, 0, 1, 0) ? 1 : 0);
        noSuch("two", none, y -> y.two(0, 0));
        noSuch("person", none, y -> y.person(0, 0));
        noSuch("weight", none, y -> y.weight(0, 0));
        noSuch("opened", none, y -> y.opened(0, 1));
        noSuch("gets", none, y -> y.gets(0));
        noSuch("named", none, y -> y.named(0));
    }

    private static LetterTown spent() {
        LetterTown x = new LetterTown();
        Check.tell(x, Check.spent("sends"));
        x.hand(0);
        x.ended();
        x.hand(0);
        x.guess(0, 0, 0, 0);
        x.theft(7, 1);
        x.begin(5, 1);
        x.image();
        return x;
    }

    private static void ofSpent() {
        Making spent = RefusedTest::spent;
        illegal("opened", spent, y -> y.opened(0, 1));
        illegal("goes", spent, y -> y.goes(0));
        illegal("gets", spent, y -> y.gets(0));
        illegal("all", spent, y -> y.all(0));
        illegal("least", spent, y -> y.least(true, 0, 5, 1));
        illegal("least", spent, y -> y.least(false, 0, 5, 1));
        illegal("one", spent, y -> y.one(0, 5, 1, 0));
        illegal("named", spent, y -> y.named(0));
        illegal("odds", spent, y -> y.odds());
        illegal("credit", spent, y -> y.credit(0));
        illegal("chain", spent, y -> y.chain(2));
        illegal("two", spent, y -> y.two(0, 1));
        illegal("feeling", spent, y -> y.feeling(5));
        illegal("on", spent, y -> y.on(1));
    }

    /** "0, or the FAULT (all stays)": all but the tape, STATUS 0 and the FAULT's place. */
    private static void faults() {
        String[] texts = {"x", "person opens 12345;", "first 0;", "person sends;knows 0 0;", "wax 1;wax 2;", "person best name 9;letter 9 9 9;law"};
        int[] codes = {1, 2, 3, 4, 5, 1};
        for (int i = 0; i < texts.length; i++) {
            LetterTown x = full();
            LetterTown twin = full();
            x.town(0);
            twin.town(0);
            for (LetterTown y : new LetterTown[] {x, twin}) {
                Check.tell(y, TOWN);
                y.hand(0);
                y.ended();
                y.hand(0);
                y.guess(1, 0, 1, 0);
                y.theft(3, 1);
                y.chain(1);
                y.begin(9, 2);
                y.on(4);
                y.image();
                y.on(3);
            }
            c.due("FAULT of " + texts[i], Check.tell(x, texts[i]), codes[i]);
            List<Long> was = seen(x);
            List<Long> due = seen(twin);
            for (int j = 0; j < due.size(); j++) {
                long want = j == 13 ? due.get(j) + 1 : j == 16 ? x.fault() : due.get(j);
                c.due("FAULT of " + texts[i] + ": seen " + j, was.get(j), want);
            }
            c.due("a place", x.fault() >= 0, true);
            c.due("the tape is empty", x.count(9), 0);
            c.due("the image stays", x.restore() && twin.restore(), true);
            c.due("it goes on", x.on(5), twin.on(5));
            for (int week = 0; week < 9; week++) c.due("week " + week, x.week(week, 1), twin.week(week, 1));
        }
    }

    /** Calls that only ask change nothing, whatever they put in place of something. */
    private static void asked() {
        Making full = RefusedTest::full;
        Call[] calls = {y -> y.opened(1, 2), y -> y.goes(1), y -> y.gets(2), y -> y.all(1), y -> y.least(true, 0, 59, 1),
            y -> y.least(false, 0, 9999, 300), y -> y.one(2, 30, 3, 1), y -> y.named(3), y -> y.two(1, 2), y -> y.feeling(9), y -> y.luck(9, 3, 400),
            y -> y.credit(2), y -> y.odds(), y -> y.judge(), y -> y.thieves(4), y -> y.week(3, 2), y -> y.fault(), y -> y.on(0)};
        for (int i = 0; i < calls.length; i++) {
            LetterTown twin = full();
            String due = answer(twin, calls[i]);
            refused("asked " + i, full, due, NOTHING, calls[i]);
            c.due("asked " + i + " again", answer(twin, calls[i]).equals(due), true);
        }
    }
}
