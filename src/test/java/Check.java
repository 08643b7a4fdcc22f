import java.util.NoSuchElementException;

/** What the tests share: telling a town, and comparing answers. */
final class Check {
    static final String NSE = "java.util.NoSuchElementException";
    static final String IAE = "java.lang.IllegalArgumentException";

    interface Call { long of() throws NoSuchElementException, IllegalArgumentException; }

    private int wrong = 0;
    private int done = 0;
    private final StringBuilder tale = new StringBuilder();

    void due(String what, long got, long want) {
        done++;
        if (got != want) {
            wrong++;
            System.out.println(what + " answered " + got + ", due is " + want);
        }
    }

    void due(String what, boolean got, boolean want) {
        due(what, got ? 1 : 0, want ? 1 : 0);
    }

    private static String answer(Call call) {
        try {
            return Long.toString(call.of());
        } catch (RuntimeException e) {
            return e.getClass().getName();
        }
    }

    private void compare(String what, String was, String due) {
        done++;
        if (!was.equals(due)) {
            wrong++;
            System.out.println(what + " answered " + was + ", due is " + due);
        }
    }

    void thrown(String what, String name, Call call) {
        compare(what, answer(call), name);
    }

    /** Starts the tale of a run, which is printed with the first call of it that is wrong. */
    void run(String name) {
        tale.setLength(0);
        tale.append(name);
    }

    void tell(String what) {
        tale.append('\n').append(what);
    }

    /** Both calls answer the same, or throw the same. */
    void same(String what, Call got, Call want) {
        String due = answer(want);
        String was = answer(got);
        tell(what);
        compare(was.equals(due) ? what : tale.toString(), was, due);
        tale.append(" -> ").append(was);
    }

    boolean failed() {
        return wrong > 0;
    }

    void end() {
        System.out.println(done + " checks, " + wrong + " wrong");
        if (wrong != 0) {
            System.exit(1);
        }
    }

    static void feed(LetterTown x, String text) {
        for (int at = 0; at < text.length(); at += 20) {
            int[] a = new int[5];
            for (int i = 0; i < 20; i++) {
                a[i / 4] = a[i / 4] << 8 | (at + i < text.length() ? text.charAt(at + i) : 'Z');
            }
            x.feed(a[0], a[1], a[2], a[3], a[4]);
        }
    }

    /** The answer of town() to a text. */
    static int tell(LetterTown x, String text) {
        feed(x, text);
        return x.town(text.length());
    }

    /** A TEXT told to a new object: its FAULT and the place, and that all stays as it was. */
    void read(String text, int code, int place) {
        LetterTown x = new LetterTown();
        due("'" + text + "'", tell(x, text), code);
        due("'" + text + "' place", x.fault(), place);
        due("'" + text + "' refused", x.count(13), code == 0 ? 0 : 1);
        due("'" + text + "' empties the tape", x.count(9), 0);
        int[] atFirst = {0, 1, 1, 8, 0, 0, 0, 1, 0};
        for (int i = 0; code != 0 && i < atFirst.length; i++) {
            due("'" + text + "' leaves count " + i, x.count(i), atFirst[i]);
        }
    }

    /** A town that is told without a FAULT. */
    LetterTown town(String text) {
        LetterTown x = new LetterTown();
        due("town " + text, tell(x, text), 0);
        return x;
    }

    /** All who know each other by bits: the text of it. */
    static String knows(int... bits) {
        StringBuilder s = new StringBuilder();
        for (int p = 0; p < bits.length; p++) {
            for (int q = 0; q < 8; q++) {
                if ((bits[p] >> q & 1) != 0) {
                    s.append("knows").append(p).append(' ').append(q).append(';');
                }
            }
        }
        return s.toString();
    }

    static String people(int n, String sort) {
        StringBuilder s = new StringBuilder();
        for (int i = 0; i < n; i++) {
            s.append("person ").append(sort).append(';');
        }
        return s.toString();
    }

    /** 20,000 HANDS that can be come to. */
    static String full(String sort) {
        return people(6, sort) + knows(62, 61, 9, 19, 46, 27) + "letter 1 1 12 pays 1;law back;";
    }

    /** 20,001 HANDS that can be come to: SPENT. */
    static String spent(String sort) {
        return people(6, sort) + knows(30, 29, 43, 39, 14, 31) + "letter 1 1 12 pays 1;law back;";
    }
}
