import java.util.Random;

/** Every call with numbers far out, in drawn states: answers as the Model's, nothing else is thrown. */
public final class ExtremesTest {
    private static final int[] FAR = {Integer.MIN_VALUE, Integer.MIN_VALUE + 1, -1000000007, -256, -2, -1, 0, 1, 2, 3, 7, 8, 9,
        12, 13, 20, 21, 30, 31, 32, 60, 61, 99, 100, 255, 256, 700, 1000, 1001, 9999, 10000, 65536, 1 << 30,
        Integer.MAX_VALUE - 1, Integer.MAX_VALUE};
    private static final Check check = new Check();

    private static void same(String what, Check.Call got, Check.Call want) {
        check.same(what, got, want);
    }

    private static int far(Random r) {
        return FAR[r.nextInt(FAR.length)];
    }

    public static void main(String[] args) {
        for (int run = 0; run < 400 && !check.failed(); run++) {
            check.run("run " + run);
            Random r = new Random(run);
            LetterTown x = new LetterTown();
            Model m = new Model();
            for (int i = 0; i < 500 && !check.failed(); i++) {
                if (r.nextInt(60) == 0) tell(x, m, TownText.draw(r, false));
                one(x, m, r);
            }
        }
        check.end();
    }

    private static void tell(LetterTown x, Model m, String text) {
        if (text.length() > 600) return;
        for (int at = 0; at < text.length(); at += 20) {
            int[] a = new int[5];
            for (int i = 0; i < 20; i++) a[i / 4] = a[i / 4] << 8 | (at + i < text.length() ? text.charAt(at + i) : ' ');
            same("feed", () -> x.feed(a[0], a[1], a[2], a[3], a[4]), () -> m.feed(a[0], a[1], a[2], a[3], a[4]));
        }
        same("town", () -> x.town(text.length()), () -> m.town(text.length()));
    }

    private static void one(LetterTown x, Model m, Random r) {
        int a = far(r), b = r.nextBoolean() ? far(r) : r.nextInt(3), c = r.nextBoolean() ? far(r) : r.nextInt(3), d = far(r);
        String args = " " + a + " " + b + " " + c + " " + d;
        switch (r.nextInt(32)) {
            case 0 -> same("feed" + args, () -> x.feed(a, b, c, d, a), () -> m.feed(a, b, c, d, a));
            case 1 -> same("town" + args, () -> x.town(a), () -> m.town(a));
            case 2 -> same("fault", () -> x.fault(), () -> m.fault());
            case 3 -> same("count" + args, () -> x.count(a), () -> m.count(a));
            case 4 -> same("person" + args, () -> x.person(b, c), () -> m.person(b, c));
            case 5 -> same("weight" + args, () -> x.weight(b, c), () -> m.weight(b, c));
            case 6 -> same("opened" + args, () -> x.opened(b, a), () -> m.opened(b, a));
            case 7 -> same("goes" + args, () -> x.goes(b), () -> m.goes(b));
            case 8 -> same("gets" + args, () -> x.gets(b), () -> m.gets(b));
            case 9 -> same("all" + args, () -> x.all(b), () -> m.all(b));
            case 10 -> same("least" + args, () -> x.least(a > 0, b, a, d), () -> m.least(a > 0, b, a, d));
            case 11 -> same("one" + args, () -> x.one(b, a, d, c), () -> m.one(b, a, d, c));
            case 12 -> same("named" + args, () -> x.named(b), () -> m.named(b));
            case 13, 14 -> same("hand" + args, () -> x.hand(b), () -> m.hand(b));
            case 15 -> same("judge", () -> x.judge(), () -> m.judge());
            case 16 -> same("odds", () -> x.odds(), () -> m.odds());
            case 17 -> same("ended", () -> x.ended(), () -> m.ended());
            case 18 -> same("guess" + args, () -> x.guess(b, c, a, d) ? 1 : 0, () -> m.guess(b, c, a, d) ? 1 : 0);
            case 19 -> same("credit" + args, () -> x.credit(b), () -> m.credit(b));
            case 20 -> same("chain" + args, () -> x.chain(b), () -> m.chain(b));
            case 21 -> same("chained" + args, () -> x.chained(b), () -> m.chained(b));
            case 22 -> same("two" + args, () -> x.two(b, c), () -> m.two(b, c));
            case 23 -> same("feeling" + args, () -> x.feeling(a), () -> m.feeling(a));
            case 24 -> same("theft" + args, () -> x.theft(b, c), () -> m.theft(b, c));
            case 25 -> same("thieves" + args, () -> x.thieves(a), () -> m.thieves(a));
            case 26 -> same("luck" + args, () -> x.luck(a, b, d), () -> m.luck(a, b, d));
            case 27 -> same("begin" + args, () -> { x.begin(a, b); return 0; }, () -> { m.begin(a, b); return 0; });
            case 28 -> same("on" + args, () -> x.on(b), () -> m.on(b));
            case 29 -> same("week" + args, () -> x.week(b, c), () -> m.week(b, c));
            case 30 -> same("image", () -> x.image() ? 1 : 0, () -> m.image() ? 1 : 0);
            default -> same("restore", () -> x.restore() ? 1 : 0, () -> m.restore() ? 1 : 0);
        }
    }
}
