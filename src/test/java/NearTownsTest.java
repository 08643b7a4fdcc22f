import java.util.List;
import java.util.Random;

/**
 * Drawn small towns whose numbers stand near one another, so that a penny more or less is seen: each call with
 * each argument is answered as by the Model. java NearTownsTest TOWNS FROM draws others.
 */
public final class NearTownsTest {
    private static final Check check = new Check();

    public static void main(String[] args) {
        int towns = args.length > 0 ? Integer.parseInt(args[0]) : 2500;
        int from = args.length > 1 ? Integer.parseInt(args[1]) : 0;
        for (int town = from; town < from + towns && !check.failed(); town++) {
            check.run("town " + town);
            oneTown(new Random(town));
        }
        check.end();
    }

    private static void same(String what, Check.Call got, Check.Call want) {
        check.same(what, got, want);
    }

    private static void oneTown(Random r) {
        LetterTown x = new LetterTown();
        Model m = new Model();
        String text = drawn(r);
        tell(text, x, m);
        ways(x, m);
        numbers(x, m, r);
        chains(x, m);
        rows(x, m, r);
        guesses(x, m, r);
        weeks(x, m, r);
    }

    private static int few(Random r, int most) {
        return r.nextInt(4) == 0 ? 0 : r.nextInt(most + 1);
    }

    private static String drawn(Random r) {
        int people = 1 + r.nextInt(4);
        StringBuilder s = new StringBuilder();
        for (int p = 0; p < people; p++) {
            s.append("person ");
            switch (r.nextInt(5)) {
                case 0 -> s.append("opens ").append(r.nextInt(12));
                case 1 -> s.append("sends");
                case 2 -> s.append("luck ").append(new int[] {0, 1, 250, 333, 500, 667, 999, 1000}[r.nextInt(8)]);
                case 3 -> s.append("best");
                default -> s.append("best name ").append(r.nextInt(6));
            }
            s.append(';');
        }
        for (int p = 0; p < people; p++) {
            for (int q = 0; q < people; q++) {
                if (p == q || r.nextInt(4) == 0) continue;
                s.append("knows ").append(p).append(' ').append(q);
                if (r.nextInt(3) == 0) s.append(" weight ").append(1 + r.nextInt(4));
                s.append(';');
            }
        }
        s.append("letter ").append(few(r, 6)).append(' ').append(few(r, 3)).append(' ').append(1 + r.nextInt(6));
        s.append(" prize ").append(few(r, 7)).append(" pays ").append(few(r, 7)).append(';');
        s.append("law ").append(List.of("once", "again", "back").get(r.nextInt(3))).append(';');
        s.append("wax ").append(1 + r.nextInt(4)).append(";first ").append(r.nextInt(people)).append(';');
        return s.toString();
    }

    private static void tell(String text, LetterTown x, Model m) {
        check.tell("text " + text);
        Check.feed(x, text);
        for (int at = 0; at < text.length(); at += 20) {
            int[] a = new int[5];
            for (int i = 0; i < 20; i++) a[i / 4] = a[i / 4] << 8 | (at + i < text.length() ? text.charAt(at + i) : 'Z');
            m.feed(a[0], a[1], a[2], a[3], a[4]);
        }
        same("town", () -> x.town(text.length()), () -> m.town(text.length()));
    }

    private static void ways(LetterTown x, Model m) {
        for (int p = 0; p < m.told.people; p++) {
            int one = p;
            for (int h = 1; h <= m.told.hands; h++) {
                int hand = h;
                same("opened " + p + " " + h, () -> x.opened(one, hand), () -> m.opened(one, hand));
            }
            same("gets " + p, () -> x.gets(one), () -> m.gets(one));
            same("named " + p, () -> x.named(one), () -> m.named(one));
            for (int q = 0; q < m.told.people; q++) {
                int other = q;
                same("two " + p + " " + q, () -> x.two(one, other), () -> m.two(one, other));
            }
        }
        for (int i = 0; i < 2; i++) {
            int what = i;
            same("goes " + i, () -> x.goes(what), () -> m.goes(what));
            same("all " + i, () -> x.all(what), () -> m.all(what));
        }
    }

    private static void numbers(LetterTown x, Model m, Random r) {
        int from = r.nextInt(4), step = 1 + r.nextInt(3);
        for (int i = 0; i < 2; i++) {
            boolean pays = i == 1;
            same("least " + pays, () -> x.least(pays, 0, 19, 1), () -> m.least(pays, 0, 19, 1));
            same("least " + pays + " " + from + " " + step, () -> x.least(pays, from, 19, step), () -> m.least(pays, from, 19, step));
        }
        for (int p = 0; p < m.told.people; p++) {
            for (int i = 0; i < 2; i++) {
                int one = p, what = i;
                same("one " + p + " " + i, () -> x.one(one, 14, 1, what), () -> m.one(one, 14, 1, what));
                same("one " + p + " " + step + " " + i, () -> x.one(one, 14, step, what), () -> m.one(one, 14, step, what));
            }
        }
        for (int w = 1; w <= 7; w++) {
            int wax = w;
            same("feeling " + wax, () -> x.feeling(wax), () -> m.feeling(wax));
        }
    }

    private static void chains(LetterTown x, Model m) {
        for (int l = 0; l < 3; l++) {
            int law = l;
            same("chain " + law, () -> x.chain(law), () -> m.chain(law));
            for (int i = 0; i <= m.told.hands; i++) {
                int at = i;
                same("chained " + at, () -> x.chained(at), () -> m.chained(at));
            }
        }
    }

    private static void rows(LetterTown x, Model m, Random r) {
        for (int i = 0; i < 8; i++) {
            Model.Hand hand = Model.first(m.told);
            int length = 1 + r.nextInt(5);
            for (int j = 0; j < length; j++) {
                int p = hand == null || r.nextInt(20) == 0 ? r.nextInt(m.told.people) : hand.who();
                same("hand " + p, () -> x.hand(p), () -> m.hand(p));
                List<Integer> may = hand == null ? List.of() : Model.may(m.told, hand);
                hand = may.isEmpty() ? null : Model.behind(m.told, hand, may.get(r.nextInt(may.size())));
                if (hand == null && r.nextInt(5) > 0) break;
            }
            same("odds", () -> x.odds(), () -> m.odds());
            same("judge", () -> x.judge(), () -> m.judge());
            same("ended", () -> x.ended(), () -> m.ended());
        }
    }

    private static void guesses(LetterTown x, Model m, Random r) {
        for (int i = 0; i < 6; i++) {
            int g = r.nextInt(4), p = r.nextInt(m.told.people), sort = r.nextInt(4), n = r.nextInt(12) * (sort == 2 ? 90 : 1);
            same("guess " + g + " " + p + " " + sort + " " + n,
                () -> x.guess(g, p, sort, n) ? 1 : 0, () -> m.guess(g, p, sort, n) ? 1 : 0);
        }
        for (int g = 0; g < 4; g++) {
            int guess = g;
            same("credit " + g, () -> x.credit(guess), () -> m.credit(guess));
        }
    }

    private static void weeks(LetterTown x, Model m, Random r) {
        int seed = r.nextInt(), out = r.nextInt(4), some = r.nextInt(6);
        same("begin " + seed + " " + out, () -> { x.begin(seed, out); return 0; }, () -> { m.begin(seed, out); return 0; });
        same("on " + some, () -> x.on(some), () -> m.on(some));
        same("image", () -> x.image() ? 1 : 0, () -> m.image() ? 1 : 0);
        same("on 5", () -> x.on(5), () -> m.on(5));
        weeksThatHaveBeen(x, m, some + 5);
        same("begin 7 1", () -> { x.begin(7, 1); return 0; }, () -> { m.begin(7, 1); return 0; });
        same("on 3", () -> x.on(3), () -> m.on(3));
        same("restore", () -> x.restore() ? 1 : 0, () -> m.restore() ? 1 : 0);
        same("on 12", () -> x.on(12), () -> m.on(12));
        weeksThatHaveBeen(x, m, some + 12);
    }

    private static void weeksThatHaveBeen(LetterTown x, Model m, int weeks) {
        for (int w = 0; w < weeks; w++) {
            for (int i = 0; i < 3; i++) {
                int week = w, what = i;
                same("week " + w + " " + i, () -> x.week(week, what), () -> m.week(week, what));
            }
        }
    }
}
