import java.util.Random;

/** Runs of drawn calls on drawn towns: each answer is the Model's, or it throws what that throws. */
public final class AgainstModelTest {
    private static final Check check = new Check();
    private static final int[] seen = new int[31];

    private static void same(String what, Check.Call got, Check.Call want) {
        check.same(what, got, want);
    }

    private static long bit(boolean b) { return b ? 1 : 0; }

    public static void main(String[] args) {
        int runs = args.length > 0 ? Integer.parseInt(args[0]) : 1200;
        int from = args.length > 1 ? Integer.parseInt(args[1]) : 0;
        for (int run = from; run < from + runs && !check.failed(); run++) {
            check.run("run " + run);
            oneRun(new Random(run), run % 40 == 39);
        }
        for (int i = 0; i < seen.length && runs >= 100 && !check.failed(); i++) {
            check.due("calls of kind " + i + ", if any", seen[i] > 0, true);
        }
        check.end();
    }

    private static void oneRun(Random r, boolean big) {
        LetterTown x = new LetterTown();
        Model m = new Model();
        int towns = 1 + r.nextInt(3);
        for (int i = 0; i < towns; i++) {
            if (i > 0 || r.nextInt(4) > 0) tellTown(x, m, r, TownText.draw(r, big));
            int more = big ? 12 : 40;
            for (int j = 0; j < more && !check.failed(); j++) call(x, m, r);
        }
    }

    private static void tellTown(LetterTown x, Model m, Random r, String text) {
        if (r.nextInt(6) == 0) text = TownText.spoil(r, text);
        text = text.substring(0, Math.min(700, text.length()));
        check.tell("text " + text);
        for (int at = 0; at < text.length(); at += 20) {
            int[] a = new int[5];
            for (int i = 0; i < 20; i++) a[i / 4] = a[i / 4] << 8 | (at + i < text.length() ? text.charAt(at + i) : ' ');
            same("feed", () -> x.feed(a[0], a[1], a[2], a[3], a[4]), () -> m.feed(a[0], a[1], a[2], a[3], a[4]));
        }
        int n = text.length();
        same("town " + n, () -> x.town(n), () -> m.town(n));
        same("fault", () -> x.fault(), () -> m.fault());
        for (int i = 0; i < 16; i++) {
            int what = i;
            same("count " + i, () -> x.count(what), () -> m.count(what));
        }
        for (int i = 0; i < m.told.people; i++) {
            int p = i;
            for (int j = 0; j < 3; j++) {
                int what = j;
                same("person " + p + " " + j, () -> x.person(p, what), () -> m.person(p, what));
            }
        }
    }

    private static void call(LetterTown x, Model m, Random r) {
        int people = m.told.people;
        int p = r.nextInt(30) == 0 ? r.nextInt(12) - 2 : r.nextInt(Math.max(1, people));
        int q = r.nextInt(30) == 0 ? r.nextInt(12) - 2 : r.nextInt(Math.max(1, people));
        int what = r.nextInt(20) == 0 ? r.nextInt(5) - 1 : r.nextInt(2);
        int kind = r.nextInt(31);
        seen[kind]++;
        switch (kind) {
            case 0 -> {
                int h = r.nextInt(14);
                same("opened " + p + " " + h, () -> x.opened(p, h), () -> m.opened(p, h));
            }
            case 1 -> same("goes " + what, () -> x.goes(what), () -> m.goes(what));
            case 2 -> same("gets " + p, () -> x.gets(p), () -> m.gets(p));
            case 3 -> same("all " + what, () -> x.all(what), () -> m.all(what));
            case 4, 5 -> {
                boolean pays = r.nextBoolean();
                int low = r.nextInt(8) == 0 ? r.nextInt(12000) - 1000 : r.nextInt(40);
                int step = r.nextInt(20) == 0 ? r.nextInt(3) - 1 : 1 + r.nextInt(30);
                int to = low + step * r.nextInt(20) + r.nextInt(3) - (r.nextInt(10) == 0 ? 4 : 0);
                same("least " + pays + " " + low + " " + to + " " + step,
                    () -> x.least(pays, low, to, step), () -> m.least(pays, low, to, step));
            }
            case 6, 7 -> {
                int step = r.nextInt(20) == 0 ? r.nextInt(3) - 1 : 1 + r.nextInt(12);
                int to = step * r.nextInt(14) + r.nextInt(3) - (r.nextInt(10) == 0 ? 4 : 0);
                same("one " + p + " " + to + " " + step + " " + what,
                    () -> x.one(p, to, step, what), () -> m.one(p, to, step, what));
            }
            case 8 -> same("named " + p, () -> x.named(p), () -> m.named(p));
            case 9, 10, 11 -> tellRow(x, m, r);
            case 12 -> same("judge", () -> x.judge(), () -> m.judge());
            case 13 -> same("odds", () -> x.odds(), () -> m.odds());
            case 14 -> same("ended", () -> x.ended(), () -> m.ended());
            case 15, 16 -> {
                int g = r.nextInt(12) == 0 ? r.nextInt(8) - 2 : r.nextInt(3);
                int sort = r.nextInt(20) == 0 ? r.nextInt(7) - 2 : r.nextInt(4);
                int n = r.nextInt(10) == 0 ? r.nextInt(12000) - 1000 : r.nextInt(50) * (sort == 2 ? 20 : 1);
                same("guess " + g + " " + p + " " + sort + " " + n,
                    () -> bit(x.guess(g, p, sort, n)), () -> bit(m.guess(g, p, sort, n)));
            }
            case 17 -> {
                for (int i = -1; i < 5; i++) {
                    int g = i;
                    same("credit " + g, () -> x.credit(g), () -> m.credit(g));
                }
            }
            case 18, 19 -> {
                int law = r.nextInt(20) == 0 ? r.nextInt(7) - 2 : r.nextInt(3);
                same("chain " + law, () -> x.chain(law), () -> m.chain(law));
                for (int i = -1; i < 13; i++) {
                    int at = i;
                    same("chained " + at, () -> x.chained(at), () -> m.chained(at));
                }
            }
            case 20, 21 -> same("two " + p + " " + q, () -> x.two(p, q), () -> m.two(p, q));
            case 22 -> {
                int wax = r.nextInt(10) == 0 ? r.nextInt(104) - 2 : 1 + r.nextInt(20);
                same("feeling " + wax, () -> x.feeling(wax), () -> m.feeling(wax));
            }
            case 23 -> {
                int through = r.nextInt(1 << people) | (r.nextInt(15) == 0 ? 1 << r.nextInt(32) : 0);
                int few = r.nextInt(15) == 0 ? r.nextInt(14) - 3 : r.nextInt(3);
                same("theft " + through + " " + few, () -> x.theft(through, few), () -> m.theft(through, few));
            }
            case 24 -> {
                for (int i = -1; i < 6; i++) {
                    int w = i;
                    same("thieves " + w, () -> x.thieves(w), () -> m.thieves(w));
                }
            }
            case 25 -> {
                int n = r.nextInt(33) - 1, k = r.nextInt(Math.max(1, n + 1)) - (r.nextInt(20) == 0 ? 2 : 0);
                int chance = r.nextInt(20) == 0 ? r.nextInt(1100) - 50 : r.nextInt(1001);
                same("luck " + n + " " + k + " " + chance, () -> x.luck(n, k, chance), () -> m.luck(n, k, chance));
            }
            case 26 -> {
                int seed = r.nextInt(), out = r.nextInt(12) == 0 ? r.nextInt(26) - 3 : r.nextInt(4);
                same("begin " + seed + " " + out, () -> { x.begin(seed, out); return 0; },
                    () -> { m.begin(seed, out); return 0; });
            }
            case 27, 28 -> {
                int n = r.nextInt(12) == 0 ? r.nextInt(66) - 3 : r.nextInt(12);
                same("on " + n, () -> x.on(n), () -> m.on(n));
                for (int i = -1; i < 102; i += 1 + i / 10) {
                    int w = i, of = r.nextInt(5) - 1;
                    same("week " + w + " " + of, () -> x.week(w, of), () -> m.week(w, of));
                }
            }
            case 29 -> same("image", () -> bit(x.image()), () -> bit(m.image()));
            default -> same("restore", () -> bit(x.restore()), () -> bit(m.restore()));
        }
    }

    /** Mostly rows that may be, so that ODDS are seldom nothing. */
    private static void tellRow(LetterTown x, Model m, Random r) {
        Model.Hand hand = m.told.people == 0 ? null : Model.first(m.told);
        int length = 1 + r.nextInt(r.nextInt(12) == 0 ? 22 : 5);
        for (int i = 0; i < length; i++) {
            int p = hand == null || r.nextInt(25) == 0 ? r.nextInt(9) : hand.who();
            same("hand " + p, () -> x.hand(p), () -> m.hand(p));
            java.util.List<Integer> may = hand == null ? java.util.List.of() : Model.may(m.told, hand);
            hand = may.isEmpty() ? null : Model.behind(m.told, hand, may.get(r.nextInt(may.size())));
            if (hand == null && r.nextInt(8) > 0) break;
        }
        same("odds", () -> x.odds(), () -> m.odds());
        same("judge", () -> x.judge(), () -> m.judge());
        same("ended", () -> x.ended(), () -> m.ended());
    }
}
