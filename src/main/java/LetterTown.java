import java.util.Arrays;
import java.util.NoSuchElementException;

/** A town in which a letter goes from hand to hand; the document's promises are its methods. */
public final class LetterTown {
    public static final int NONE = -1;

    private static final int PEOPLE = 8;
    private static final int HANDS = 12;
    private static final int TEXT = 700;
    private static final int MOST = 9999;
    private static final int ASKS = 60;
    private static final int GUESSES = 4;
    private static final int EVERYONE = 255;
    private static final long BILLION = 1000000000L;

    private static final int OPENS = 0;
    private static final int SENDS = 1;
    private static final int LUCK = 2;
    private static final int BEST = 3;

    private static final int ONCE = 0;
    private static final int AGAIN = 1;
    private static final int BACK = 2;

    // Nearly every town fits in the small tables; the large ones are made when one first doesn't.
    private static final int FEW_HANDS = 640;
    private static final int ALL_HANDS = 20000;

    private final int[] tape = new int[TEXT];
    private int tapeLength;
    private int faultPlace = NONE;
    private final int[] refused = new int[3];
    private final Reader reader = new Reader(tape);
    private final Town told = new Town();
    // The town as a call asks it: told, with what the call puts in place of something.
    private final Town asked = new Town();
    private final Play small = new Play(FEW_HANDS, 1024);
    private Play large;
    private final Rows rows = new Rows();
    private final Guesses guesses = new Guesses();
    private final Theft letters = new Theft();
    private final long[] ends = new long[PEOPLE];
    private final long[] pennies = new long[31];
    private long chainRow;
    private int chainLength;
    private final Weeks running = new Weeks();
    private final Weeks kept = new Weeks();

    public LetterTown() {
    }

    public int feed(int a, int b, int c, int d, int e) {
        if (tapeLength + 20 > TEXT) {
            return NONE;
        }
        putBytes(a);
        putBytes(b);
        putBytes(c);
        putBytes(d);
        putBytes(e);
        return tapeLength;
    }

    public int town(int n) throws IllegalArgumentException {
        if (n < 0 || n > tapeLength) {
            throw new IllegalArgumentException("the tape has not so many bytes");
        }
        tapeLength = 0;
        int code = reader.read(n);
        faultPlace = reader.place;
        if (code != 0) {
            refused[0]++;
            return code;
        }
        told.copy(reader.town);
        startAnew();
        return 0;
    }

    public int fault() {
        return faultPlace;
    }

    public int count(int what) throws NoSuchElementException {
        switch (what) {
            case 0: return told.people;
            case 1: return told.start;
            case 2: return told.penny;
            case 3: return told.hands;
            case 4: return told.prize;
            case 5: return told.pays;
            case 6: return told.law;
            case 7: return told.wax;
            case 8: return told.first;
            case 9: return tapeLength;
            case 10: return rows.length;
            case 11: return rows.endedRows;
            case 12: return letters.size;
            case 13: return refused[0];
            case 14: return refused[1];
            case 15: return refused[2];
            default: throw new NoSuchElementException("no such count");
        }
    }

    public int person(int person, int what) throws NoSuchElementException {
        needPerson(person);
        needWhat(what, 2);
        if (what == 0) {
            return told.sort[person];
        }
        return what == 1 ? told.number[person] : told.knows[person];
    }

    public int weight(int person, int other) throws NoSuchElementException {
        needPerson(person);
        needPerson(other);
        return told.weights[person * PEOPLE + other];
    }

    public int opened(int person, int hand) throws NoSuchElementException, IllegalArgumentException {
        needPerson(person);
        if (hand < 1 || hand > told.hands) {
            throw new NoSuchElementException("no such hand");
        }
        asked.copy(told);
        Play play = playAsked();
        play.countCases();
        return (int) play.casesOf(person, hand);
    }

    public long goes(int what) throws NoSuchElementException, IllegalArgumentException {
        needWhat(what, 1);
        needPeople();
        asked.copy(told);
        Play play = playAsked();
        play.countCases();
        return what == 0 ? play.casesAt(told.hands) : play.lengthOfAll();
    }

    public long gets(int person) throws NoSuchElementException, IllegalArgumentException {
        needPerson(person);
        asked.copy(told);
        Play play = playAsked();
        play.reckon(EVERYONE);
        return play.gains[person];
    }

    public int all(int what) throws NoSuchElementException, IllegalArgumentException {
        needWhat(what, 1);
        needPeople();
        asked.copy(told);
        asked.letAllReckon();
        long last = lastHandOfAll();
        return what == 0 ? Ways.whoOf(last) : Ways.handOf(last);
    }

    public int least(boolean pays, int from, int to, int step)
            throws NoSuchElementException, IllegalArgumentException {
        needPeople();
        if (from < 0 || to > MOST || from > to || step < 1 || (to - from) / step >= ASKS) {
            throw new IllegalArgumentException("numbers not as told");
        }
        asked.copy(told);
        asked.letAllReckon();
        int asks = (to - from) / step + 1;
        for (int i = 0; i < asks; i++) {
            int number = from + i * step;
            if (pays) {
                asked.pays = number;
            } else {
                asked.prize = number;
            }
            if (Ways.handOf(lastHandOfAll()) == told.hands) {
                return number;
            }
        }
        return NONE;
    }

    public long one(int person, int to, int step, int what)
            throws NoSuchElementException, IllegalArgumentException {
        needPerson(person);
        needWhat(what, 1);
        if (to < 0 || to > MOST || step < 1 || to / step >= ASKS) {
            throw new IllegalArgumentException("numbers not as told");
        }
        asked.copy(told);
        asked.sort[person] = OPENS;
        int asks = to / step + 1;
        int opening = NONE;
        int bestNumber = 0;
        long most = 0;
        for (int i = 0; i < asks; i++) {
            int hands = asked.handsOpenedAt(i * step);
            // A number that opens at the same hands as the one ahead of it gets the same.
            if (i == 0 || hands != opening) {
                opening = hands;
                asked.number[person] = i * step;
                long gain = gainAsked(person);
                if (i == 0 || gain > most) {
                    most = gain;
                    bestNumber = i * step;
                }
            }
        }
        return what == 0 ? bestNumber : most;
    }

    public long named(int person) throws NoSuchElementException, IllegalArgumentException {
        needPerson(person);
        asked.copy(told);
        asked.first = person;
        asked.sort[person] = BEST;
        asked.number[person] = 0;
        Play play = playAsked();
        play.reckon(0);
        int to = play.likedMost(0);
        if (to < 0) {
            return NONE;
        }
        long lack = 1000L * told.start - play.worthOf(0, to);
        return lack < 0 ? 0 : lack / 1000 + 1;
    }

    public int hand(int person) throws NoSuchElementException {
        needPerson(person);
        if (!rows.add(person)) {
            refused[1]++;
            return NONE;
        }
        return rows.length;
    }

    public int judge() {
        return rows.firstWrong(told);
    }

    public int odds() throws IllegalArgumentException {
        if (told.people == 0) {
            return 0;
        }
        asked.copy(told);
        Play play = playAsked();
        play.choose();
        return (int) play.oddsOf(rows.now, 0, rows.length);
    }

    public int ended() {
        return rows.end() ? rows.endedRows : NONE;
    }

    public boolean guess(int guess, int person, int sort, int n) throws NoSuchElementException {
        needGuess(guess);
        needPerson(person);
        if (sort < OPENS || sort > BEST) {
            return false;
        }
        if (sort != SENDS && (n < 0 || n > (sort == LUCK ? 1000 : MOST))) {
            return false;
        }
        guesses.tell(guess, person, sort, sort == SENDS ? 0 : n);
        return true;
    }

    public int credit(int guess) throws NoSuchElementException, IllegalArgumentException {
        needGuess(guess);
        if (!guesses.isTold(guess)) {
            return NONE;
        }
        asked.copy(told);
        playAsked();
        for (int g = 0; g < GUESSES && rows.endedRows > 0; g++) {
            if (guesses.isTold(g)) {
                asked.copy(told);
                guesses.putInto(asked, g);
                Play play = playAsked();
                play.choose();
                guesses.noteOdds(g, play, rows);
            }
        }
        return guesses.creditOf(guess, rows.endedRows);
    }

    public int chain(int law) throws NoSuchElementException, IllegalArgumentException {
        if (law < ONCE || law > BACK) {
            throw new NoSuchElementException("no such LAW");
        }
        needPeople();
        asked.copy(told);
        asked.law = law;
        Play play = playAsked();
        play.choose();
        int node = play.surestEnd();
        if (node < 0) {
            return NONE;
        }
        chainRow = play.rowTo[node];
        chainLength = told.hands;
        return (int) play.tally[node];
    }

    public int chained(int i) throws NoSuchElementException {
        if (i < 0 || i >= chainLength) {
            throw new NoSuchElementException("no such hand of THE CHAIN");
        }
        return (int) (chainRow >> 3 * (chainLength - 1 - i)) & 7;
    }

    public int two(int person, int other) throws NoSuchElementException, IllegalArgumentException {
        needPerson(person);
        needPerson(other);
        asked.copy(told);
        asked.first = person;
        Play play = playAsked();
        play.countCases();
        for (int p = 0; p < PEOPLE; p++) {
            ends[p] = play.casesOf(p, told.hands);
        }
        asked.first = other;
        long both = 0;
        for (int p = 0; p < PEOPLE; p++) {
            if (ends[p] > 0 && p != other) {
                asked.leftOut = 1 << p;
                play = playAsked();
                play.reckon(0);
                both += ends[p] * play.endings[0] / BILLION;
            }
        }
        return (int) both;
    }

    public long feeling(int wax) throws NoSuchElementException, IllegalArgumentException {
        needPeople();
        if (wax < 1 || wax > 99) {
            throw new IllegalArgumentException("no such WAX");
        }
        asked.copy(told);
        asked.wax = wax;
        Play play = playAsked();
        play.countCases();
        return play.lengthOfAll();
    }

    public int theft(int through, int few) throws IllegalArgumentException {
        if ((through & ~told.everyone()) != 0) {
            throw new IllegalArgumentException("PEOPLE that there aren't");
        }
        if (few < 0 || few > PEOPLE || !letters.add(through, few)) {
            refused[2]++;
            return NONE;
        }
        return letters.size;
    }

    public int thieves(int what) throws NoSuchElementException {
        needWhat(what, 4);
        letters.weigh(told.people);
        switch (what) {
            case 0: return letters.surely;
            case 1: return letters.possibly;
            case 2: return letters.sets;
            case 3: return letters.fewest;
            default: return letters.whomToAsk(told.people);
        }
    }

    public int luck(int n, int k, int chance) throws IllegalArgumentException {
        if (n < 0 || n > 30 || k < 0 || k > n || chance < 0 || chance > 1000) {
            throw new IllegalArgumentException("pennies not as told");
        }
        Arrays.fill(pennies, 0);
        pennies[0] = BILLION;
        for (int penny = 1; penny <= n; penny++) {
            for (int lost = penny; lost >= 0; lost--) {
                long below = lost > 0 ? pennies[lost - 1] * chance : 0;
                pennies[lost] = (pennies[lost] * (1000 - chance) + below) / 1000;
            }
        }
        long together = 0;
        for (int lost = k; lost <= n; lost++) {
            together += pennies[lost];
        }
        return (int) together;
    }

    public void begin(int seed, int out) throws IllegalArgumentException {
        if (out < 0 || out > 20 || told.people == 0) {
            throw new IllegalArgumentException("weeks not as told, or no PEOPLE");
        }
        running.start(seed, out);
    }

    public int on(int weeks) throws IllegalArgumentException {
        if (weeks < 0 || weeks > 60) {
            throw new IllegalArgumentException("weeks not as told");
        }
        if (!running.begun || running.size + weeks > Weeks.MOST_WEEKS) {
            return NONE;
        }
        asked.copy(told);
        Play play = playAsked();
        play.choose();
        for (int i = 0; i < weeks; i++) {
            running.runOne(play);
        }
        return running.size;
    }

    public int week(int week, int what) throws NoSuchElementException {
        needWhat(what, 2);
        if (week < 0 || week >= running.size) {
            throw new NoSuchElementException("no such week");
        }
        if (what == 0) {
            return running.openers[week];
        }
        int hand = running.hands[week];
        return what == 1 || hand == 0 ? hand : told.pence(hand);
    }

    public boolean image() {
        if (!running.begun) {
            return false;
        }
        kept.copy(running);
        return true;
    }

    public boolean restore() {
        if (!kept.begun) {
            return false;
        }
        running.copy(kept);
        return true;
    }

    private void putBytes(int number) {
        for (int shift = 24; shift >= 0 && tapeLength < TEXT; shift -= 8) {
            tape[tapeLength] = number >> shift & 255;
            tapeLength++;
        }
    }

    private void startAnew() {
        rows.clear();
        guesses.clear();
        letters.clear();
        chainLength = 0;
        running.clear();
        kept.clear();
        small.forget();
        if (large != null) {
            large.forget();
        }
    }

    private void needPerson(int person) {
        if (person < 0 || person >= told.people) {
            throw new NoSuchElementException("no such PERSON");
        }
    }

    private void needPeople() {
        if (told.people == 0) {
            throw new NoSuchElementException("no PEOPLE");
        }
    }

    private void needWhat(int what, int most) {
        if (what < 0 || what > most) {
            throw new NoSuchElementException("no such what");
        }
    }

    private void needGuess(int guess) {
        if (guess < 0 || guess >= GUESSES) {
            throw new NoSuchElementException("no such GUESS");
        }
    }

    /** The asked town with all its HANDS laid out; refused where it is SPENT. */
    private Play playAsked() {
        if (small.follow(asked)) {
            return small;
        }
        if (large == null) {
            large = new Play(ALL_HANDS, 32768);
        }
        if (!large.follow(asked)) {
            throw new IllegalArgumentException("SPENT");
        }
        return large;
    }

    private long lastHandOfAll() {
        Play play = playAsked();
        play.reckon(0);
        return play.lastByChoice();
    }

    private long gainAsked(int person) {
        Play play = playAsked();
        play.reckon(1 << person);
        return play.gains[person];
    }

    /** PEOPLE and LETTER, as told or as asked. */
    private static final class Town {
        private int people;
        private final int[] sort = new int[PEOPLE];
        private final int[] number = new int[PEOPLE];
        private final int[] knows = new int[PEOPLE];
        private final int[] weights = new int[PEOPLE * PEOPLE];
        private int start;
        private int penny;
        private int hands;
        private int prize;
        private int pays;
        private int law;
        private int wax;
        private int first;
        // Bits of whom it may not be sent to at all: the second of TWO letters has one.
        private int leftOut;

        private Town() {
            reset();
        }

        private void reset() {
            people = 0;
            Arrays.fill(sort, 0);
            Arrays.fill(number, 0);
            Arrays.fill(knows, 0);
            Arrays.fill(weights, 0);
            start = 1;
            penny = 1;
            hands = 8;
            prize = 0;
            pays = 0;
            law = ONCE;
            wax = 1;
            first = 0;
            leftOut = 0;
        }

        private void copy(Town from) {
            people = from.people;
            System.arraycopy(from.sort, 0, sort, 0, PEOPLE);
            System.arraycopy(from.number, 0, number, 0, PEOPLE);
            System.arraycopy(from.knows, 0, knows, 0, PEOPLE);
            System.arraycopy(from.weights, 0, weights, 0, PEOPLE * PEOPLE);
            start = from.start;
            penny = from.penny;
            hands = from.hands;
            prize = from.prize;
            pays = from.pays;
            law = from.law;
            wax = from.wax;
            first = from.first;
            leftOut = from.leftOut;
        }

        /** Whether all is alike that a call may put in place of what is told. */
        private boolean isAsked(Town other) {
            if (prize != other.prize || pays != other.pays || law != other.law) {
                return false;
            }
            if (wax != other.wax || first != other.first || leftOut != other.leftOut) {
                return false;
            }
            for (int p = 0; p < PEOPLE; p++) {
                if (sort[p] != other.sort[p] || number[p] != other.number[p]) {
                    return false;
                }
            }
            return true;
        }

        private int everyone() {
            return (1 << people) - 1;
        }

        private int pence(int hand) {
            return start + penny * (hand - 1);
        }

        private int felt(int hand) {
            int pence = pence(hand);
            return wax > 0 ? pence - pence % wax : pence;
        }

        private int handsOpenedAt(int least) {
            int found = 0;
            for (int h = 1; h <= hands; h++) {
                if (felt(h) >= least) {
                    found++;
                }
            }
            return found;
        }

        /** Whether it counts how often each has sent it. */
        private boolean countsSent() {
            return law != ONCE && pays > 0;
        }

        private void letAllReckon() {
            for (int p = 0; p < people; p++) {
                if (sort[p] != BEST) {
                    sort[p] = BEST;
                    number[p] = 0;
                }
            }
        }

        private int reckoners() {
            int bits = 0;
            for (int p = 0; p < people; p++) {
                if (sort[p] == BEST) {
                    bits |= 1 << p;
                }
            }
            return bits;
        }
    }

    /** Reads a TOWN from the tape, up to its first FAULT. */
    private static final class Reader {
        private static final int END = 0;
        private static final int WORD = 1;
        private static final int NUMBER = 2;
        private static final int SIGN = 3;
        private static final int OTHER = 4;

        private final int[] text;
        private final Town town = new Town();
        private int length;
        private int at;
        private int kind;
        private int from;
        private int value;
        private int digits;
        private int linesTold;
        private int code;
        private int place;

        private Reader(int[] tape) {
            text = tape;
        }

        private int read(int n) {
            town.reset();
            length = Math.min(n, text.length);
            at = 0;
            linesTold = 0;
            code = 0;
            place = NONE;
            for (int line = 0; line <= TEXT; line++) {
                takeToken();
                if (kind == END || !readLine()) {
                    break;
                }
            }
            return code;
        }

        private boolean refuse(int fault) {
            code = fault;
            place = from;
            return false;
        }

        private void takeToken() {
            while (at < length && (text[at] == ' ' || text[at] == 10)) {
                at++;
            }
            from = at;
            if (at >= length) {
                kind = END;
            } else if (isLetter(text[at])) {
                kind = WORD;
                while (at < length && isLetter(text[at])) {
                    at++;
                }
            } else if (isDigit(text[at])) {
                kind = NUMBER;
                value = 0;
                digits = 0;
                while (at < length && isDigit(text[at])) {
                    if (digits < 4) {
                        value = value * 10 + text[at] - '0';
                    }
                    digits++;
                    at++;
                }
            } else {
                kind = text[at] == ';' ? SIGN : OTHER;
                at++;
            }
        }

        private static boolean isLetter(int sign) {
            return sign >= 'a' && sign <= 'z';
        }

        private static boolean isDigit(int sign) {
            return sign >= '0' && sign <= '9';
        }

        private boolean isWord(String word) {
            if (kind != WORD || at - from != word.length()) {
                return false;
            }
            for (int i = 0; i < word.length(); i++) {
                if (text[from + i] != word.charAt(i)) {
                    return false;
                }
            }
            return true;
        }

        private boolean readLine() {
            if (isWord("person")) {
                return readPerson();
            }
            if (isWord("knows")) {
                return readKnows();
            }
            if (isWord("letter")) {
                return tellOnce(1) && readLetter();
            }
            if (isWord("law")) {
                return tellOnce(2) && readLaw();
            }
            if (isWord("wax")) {
                return tellOnce(4) && readWax();
            }
            if (isWord("first")) {
                return tellOnce(8) && readFirst();
            }
            return refuse(1);
        }

        private boolean tellOnce(int bit) {
            if ((linesTold & bit) != 0) {
                return refuse(5);
            }
            linesTold |= bit;
            return true;
        }

        private boolean readNumber(int lowest, int highest) {
            takeToken();
            if (kind != NUMBER) {
                return refuse(1);
            }
            if (digits > 4 || value < lowest || value > highest) {
                return refuse(2);
            }
            return true;
        }

        private boolean readKnown() {
            if (!readNumber(0, MOST)) {
                return false;
            }
            return value < town.people || refuse(3);
        }

        /** Takes a word and its NUMBER, if they stand there; the TOKEN behind them is taken too. */
        private boolean readPerhaps(String word, int lowest, int highest, int without) {
            if (!isWord(word)) {
                value = without;
                return true;
            }
            if (!readNumber(lowest, highest)) {
                return false;
            }
            int number = value;
            takeToken();
            value = number;
            return true;
        }

        private boolean isClosed() {
            return kind == SIGN || refuse(1);
        }

        private boolean readPerson() {
            if (town.people >= PEOPLE) {
                return refuse(2);
            }
            takeToken();
            int sort = sortOfWord();
            if (sort < 0) {
                return refuse(1);
            }
            int number = 0;
            if (sort == OPENS || sort == LUCK) {
                if (!readNumber(0, sort == LUCK ? 1000 : MOST)) {
                    return false;
                }
                number = value;
            }
            takeToken();
            if (sort == BEST) {
                if (!readPerhaps("name", 0, MOST, 0)) {
                    return false;
                }
                number = value;
            }
            town.sort[town.people] = sort;
            town.number[town.people] = number;
            town.people++;
            return isClosed();
        }

        private int sortOfWord() {
            if (isWord("opens")) {
                return OPENS;
            }
            if (isWord("sends")) {
                return SENDS;
            }
            if (isWord("luck")) {
                return LUCK;
            }
            return isWord("best") ? BEST : NONE;
        }

        private boolean readKnows() {
            if (!readKnown()) {
                return false;
            }
            int one = value;
            if (!readKnown()) {
                return false;
            }
            int other = value;
            if (one == other || (town.knows[one] >> other & 1) != 0) {
                return refuse(4);
            }
            takeToken();
            if (!readPerhaps("weight", 1, 99, 1)) {
                return false;
            }
            town.knows[one] |= 1 << other;
            town.weights[one * PEOPLE + other] = value;
            return isClosed();
        }

        private boolean readLetter() {
            if (!readNumber(0, MOST)) {
                return false;
            }
            town.start = value;
            if (!readNumber(0, 99)) {
                return false;
            }
            town.penny = value;
            if (!readNumber(1, HANDS)) {
                return false;
            }
            town.hands = value;
            takeToken();
            if (!readPerhaps("prize", 0, MOST, 0)) {
                return false;
            }
            town.prize = value;
            if (!readPerhaps("pays", 0, MOST, 0)) {
                return false;
            }
            town.pays = value;
            return isClosed();
        }

        private boolean readLaw() {
            takeToken();
            if (isWord("once")) {
                town.law = ONCE;
            } else if (isWord("again")) {
                town.law = AGAIN;
            } else if (isWord("back")) {
                town.law = BACK;
            } else {
                return refuse(1);
            }
            takeToken();
            return isClosed();
        }

        private boolean readWax() {
            if (!readNumber(1, 99)) {
                return false;
            }
            town.wax = value;
            takeToken();
            return isClosed();
        }

        private boolean readFirst() {
            if (!readKnown()) {
                return false;
            }
            town.first = value;
            takeToken();
            return isClosed();
        }
    }

    /**
     * All HANDS that can be come to, in the order of their hands, so that what is reckoned from the
     * last hand goes down the numbers. A HAND is a long: who has it (3 bits), the how-manieth it is
     * (4), who has had it (8), whom it came from and 1 (4), how often each has sent it (8 times 4).
     */
    private static final class Ways {
        private static final int HAD = 7;
        private static final int FROM = 15;
        private static final int SENT = 19;
        private static final long HAD_BITS = 255L << HAD;
        private static final long SENT_BITS = -1L << SENT;
        private static final long MIX = 0x9E3779B97F4A7C15L;

        private final int room;
        private final long[] keys;
        private final int[] may;
        private final int[] next;
        private final int[] slots;
        private int size;
        // What the ways depend on, beside what is told: they are laid anew only if it is another.
        private int laidFor = NONE;
        private boolean fits;

        private Ways(int hands, int slotCount) {
            room = hands;
            keys = new long[hands];
            may = new int[hands];
            next = new int[hands * PEOPLE];
            slots = new int[slotCount];
        }

        private static int whoOf(long key) {
            return (int) key & 7;
        }

        private static int handOf(long key) {
            return (int) (key >> 3) & 15;
        }

        private static int timesSent(long key, int person) {
            return (int) (key >> (SENT + 4 * person)) & 15;
        }

        private static long firstKey(Town town) {
            long key = town.first & 7 | 1 << 3;
            return town.law == ONCE ? key | 1L << (HAD + (town.first & 7)) : key;
        }

        private static long keyBehind(Town town, long key, int to) {
            int who = whoOf(key);
            long behind = to | (long) (handOf(key) + 1) << 3;
            if (town.law == ONCE) {
                behind |= key & HAD_BITS | 1L << (HAD + to);
            } else if (town.law == AGAIN) {
                behind |= (long) (who + 1) << FROM;
            }
            if (town.countsSent()) {
                behind |= (key & SENT_BITS) + (1L << (SENT + 4 * who));
            }
            return behind;
        }

        private static int maySendTo(Town town, long key) {
            if (handOf(key) >= town.hands) {
                return 0;
            }
            int bits = town.knows[whoOf(key)] & ~town.leftOut;
            if (town.law == ONCE) {
                bits &= ~(int) (key >> HAD & 255);
            } else if (town.law == AGAIN) {
                int from = (int) (key >> FROM) & 15;
                bits &= from == 0 ? EVERYONE : ~(1 << (from - 1));
            }
            return bits & EVERYONE;
        }

        private void forget() {
            laidFor = NONE;
        }

        /** Lays out the town's HANDS; false if there are more than there is room for. */
        private boolean lay(Town town) {
            int wanted = town.law | (town.countsSent() ? 4 : 0) | town.first << 3 | town.leftOut << 6;
            if (wanted != laidFor) {
                laidFor = wanted;
                Arrays.fill(slots, NONE);
                size = 0;
                placeOf(firstKey(town));
                fits = true;
                for (int node = 0; node < room && node < size && fits; node++) {
                    layHand(town, node);
                }
            }
            return fits;
        }

        private void layHand(Town town, int node) {
            int bits = maySendTo(town, keys[node]);
            may[node] = bits;
            for (int to = 0; to < PEOPLE; to++) {
                int place = NONE;
                if ((bits >> to & 1) != 0) {
                    place = placeOf(keyBehind(town, keys[node], to));
                    if (place < 0) {
                        fits = false;
                    }
                }
                next[node * PEOPLE + to] = place;
            }
        }

        /** The number of a HAND, which is a new one if it hasn't been come to; NONE without room. */
        private int placeOf(long key) {
            int mask = slots.length - 1;
            int slot = (int) (key * MIX >>> 40) & mask;
            for (int tries = 0; tries <= mask; tries++) {
                int node = slots[slot];
                if (node < 0) {
                    if (size >= room) {
                        return NONE;
                    }
                    slots[slot] = size;
                    keys[size] = key;
                    size++;
                    return size - 1;
                }
                if (keys[node] == key) {
                    return node;
                }
                slot = slot + 1 & mask;
            }
            return NONE;
        }
    }

    /** What is done in a town at each of its HANDS, and what follows of it. */
    private static final class Play {
        private final Town town = new Town();
        private final Ways ways;
        // Of each HAND: ENDS, what each one GETS, whom it is BEST to send it to (NONE: opened).
        private final long[] endings;
        private final long[] gains;
        private final int[] choices;
        // Of each HAND: its CASES, or the chance and the code (3 bits a hand) of its surest row.
        private final long[] tally;
        private final long[] rowTo;
        private final long[] cases = new long[PEOPLE * HANDS];
        private final long[] sums = new long[PEOPLE];
        private final int[] columns = new int[PEOPLE];
        private int columnCount;
        private boolean stands;
        private boolean casesStand;
        private boolean gainsStand;
        private int gainsOf;

        private Play(int hands, int slots) {
            ways = new Ways(hands, slots);
            endings = new long[hands];
            gains = new long[hands * PEOPLE];
            choices = new int[hands];
            tally = new long[hands];
            rowTo = new long[hands];
        }

        private void forget() {
            stands = false;
            ways.forget();
        }

        /** Takes up a town as it is asked; false if its HANDS don't fit. What stands of it is kept. */
        private boolean follow(Town asked) {
            if (!stands || !town.isAsked(asked)) {
                town.copy(asked);
                stands = true;
                casesStand = false;
                gainsStand = false;
            }
            return ways.lay(town);
        }

        /** Only who does as is BEST needs all that follows to be reckoned. */
        private void choose() {
            if (town.reckoners() != 0) {
                reckon(0);
            }
        }

        /** Reckons from the last hand ENDS, what is BEST, and GETS at least of some PEOPLE (bits). */
        private void reckon(int people) {
            int wanted = (people | town.reckoners()) & town.everyone();
            if (gainsStand && (wanted & ~gainsOf) == 0) {
                return;
            }
            columnCount = 0;
            for (int p = 0; p < PEOPLE; p++) {
                if ((wanted >> p & 1) != 0) {
                    columns[columnCount] = p;
                    columnCount++;
                }
            }
            for (int node = ways.size - 1; node >= 0; node--) {
                reckonHand(node);
            }
            gainsStand = true;
            gainsOf = wanted;
        }

        private void reckonHand(int node) {
            int who = Ways.whoOf(ways.keys[node]);
            if (town.sort[who] == BEST) {
                int liked = likedMost(node);
                boolean isSent = liked >= 0 && worthOf(node, liked) > openingOf(node);
                choices[node] = isSent ? liked : NONE;
            }
            int share = shareOpened(node);
            if (share >= 1000) {
                reckonOpened(node, who);
            } else {
                reckonSent(node, who, share);
            }
        }

        private void reckonOpened(int node, int who) {
            int hand = Ways.handOf(ways.keys[node]);
            boolean isEnd = hand == town.hands;
            for (int c = 0; c < columnCount; c++) {
                gains[node * PEOPLE + columns[c]] = 0;
            }
            gains[node * PEOPLE + who] = 1000L * (town.pence(hand) + (isEnd ? town.prize : 0));
            endings[node] = isEnd ? BILLION : 0;
        }

        private void reckonSent(int node, int who, int share) {
            long weights = 0;
            long ending = 0;
            Arrays.fill(sums, 0);
            int bits = targetsOf(node);
            for (int to = 0; to < PEOPLE; to++) {
                int behind = ways.next[node * PEOPLE + to];
                if ((bits >> to & 1) != 0 && behind >= 0) {
                    long weight = weightTo(who, to);
                    weights += weight;
                    ending += weight * endings[behind];
                    for (int c = 0; c < columnCount; c++) {
                        sums[columns[c]] += weight * gains[behind * PEOPLE + columns[c]];
                    }
                    sums[who] += weight * (payFor(behind) - 1000L * town.penny);
                }
            }
            if (weights <= 0) {
                return;
            }
            for (int c = 0; c < columnCount; c++) {
                int p = columns[c];
                long sent = Math.floorDiv(sums[p], weights) * (1000 - share);
                long opened = p == who ? openingOf(node) * share : 0;
                gains[node * PEOPLE + p] = Math.floorDiv(opened + sent, 1000L);
            }
            endings[node] = ending / weights * (1000 - share) / 1000;
        }

        /** What a sender is paid, by the chance that it comes to its END from that HAND on. */
        private long payFor(int behind) {
            return 1000L * town.pays * endings[behind] / BILLION;
        }

        /** What it is worth to him who has it to send it to one that he MAY send it to. */
        private long worthOf(int node, int to) {
            int behind = ways.next[node * PEOPLE + to];
            if (behind < 0) {
                return 0;
            }
            long key = ways.keys[node];
            int who = Ways.whoOf(key);
            long times = Ways.timesSent(key, who) + 1;
            long name = town.sort[who] == BEST ? town.number[who] : 0;
            return gains[behind * PEOPLE + who] + times * payFor(behind) + 1000L * (name - town.penny);
        }

        /** To whom it is worth most to send it, of like ones the least; NONE if he MAY to nobody. */
        private int likedMost(int node) {
            int liked = NONE;
            long most = 0;
            for (int to = 0; to < PEOPLE; to++) {
                if ((ways.may[node] >> to & 1) != 0) {
                    long worth = worthOf(node, to);
                    if (liked < 0 || worth > most) {
                        liked = to;
                        most = worth;
                    }
                }
            }
            return liked;
        }

        /** What he who has it gets by opening it ahead of its END. */
        private long openingOf(int node) {
            return 1000L * town.pence(Ways.handOf(ways.keys[node]));
        }

        /** How many of 1000 CASES are opened at a HAND. */
        private int shareOpened(int node) {
            if (ways.may[node] == 0) {
                return 1000;
            }
            long key = ways.keys[node];
            int who = Ways.whoOf(key);
            switch (town.sort[who]) {
                case OPENS: return town.felt(Ways.handOf(key)) >= town.number[who] ? 1000 : 0;
                case LUCK: return town.number[who];
                case BEST: return choices[node] < 0 ? 1000 : 0;
                default: return 0;
            }
        }

        /** Bits of those to whom what isn't opened is sent. */
        private int targetsOf(int node) {
            if (town.sort[Ways.whoOf(ways.keys[node])] != BEST) {
                return ways.may[node];
            }
            return choices[node] < 0 ? 0 : 1 << choices[node];
        }

        private int weightTo(int who, int to) {
            return town.sort[who] == BEST ? 1 : town.weights[who * PEOPLE + to];
        }

        private int weightsTo(int who, int bits) {
            int weights = 0;
            for (int to = 0; to < PEOPLE; to++) {
                if ((bits >> to & 1) != 0) {
                    weights += weightTo(who, to);
                }
            }
            return weights;
        }

        private long lastByChoice() {
            int node = 0;
            for (int hand = 1; hand < HANDS; hand++) {
                int to = choices[node];
                int behind = to < 0 ? NONE : ways.next[node * PEOPLE + to];
                if (behind < 0) {
                    break;
                }
                node = behind;
            }
            return ways.keys[node];
        }

        private void countCases() {
            if (casesStand) {
                return;
            }
            choose();
            Arrays.fill(cases, 0);
            clearTally();
            for (int node = 0; node < ways.size; node++) {
                if (tally[node] > 0) {
                    spreadCases(node);
                }
            }
            casesStand = true;
        }

        private void clearTally() {
            for (int node = 1; node < ways.size; node++) {
                tally[node] = 0;
            }
            tally[0] = BILLION;
        }

        private void spreadCases(int node) {
            long key = ways.keys[node];
            int who = Ways.whoOf(key);
            int hand = Ways.handOf(key);
            long opened = tally[node] * shareOpened(node) / 1000;
            if (hand >= 1 && hand <= HANDS) {
                cases[who * HANDS + hand - 1] += opened;
            }
            long sent = tally[node] - opened;
            int bits = targetsOf(node);
            int weights = weightsTo(who, bits);
            if (sent == 0 || weights <= 0) {
                return;
            }
            long left = sent;
            for (int to = 0; to < PEOPLE; to++) {
                int behind = ways.next[node * PEOPLE + to];
                if ((bits >> to & 1) != 0 && behind >= 0) {
                    boolean isLast = bits >> to == 1;
                    long part = isLast ? left : sent * weightTo(who, to) / weights;
                    left -= part;
                    tally[behind] += part;
                }
            }
        }

        private long casesOf(int person, int hand) {
            return cases[person * HANDS + hand - 1];
        }

        private long casesAt(int hand) {
            long together = 0;
            for (int p = 0; p < PEOPLE; p++) {
                together += casesOf(p, hand);
            }
            return together;
        }

        private long lengthOfAll() {
            long together = 0;
            for (int h = 1; h <= HANDS; h++) {
                together += h * casesAt(h);
            }
            return together;
        }

        /** What of a chance goes from a HAND to one, as ODDS go. */
        private long chanceTo(int node, int to, long chance) {
            int who = Ways.whoOf(ways.keys[node]);
            int bits = targetsOf(node);
            int weights = weightsTo(who, bits);
            if ((bits >> to & 1) == 0 || weights <= 0) {
                return 0;
            }
            long sent = chance * (1000 - shareOpened(node)) / 1000;
            return sent * weightTo(who, to) / weights;
        }

        private long oddsOf(int[] people, int from, int length) {
            if (length <= 0 || people[from] != town.first) {
                return 0;
            }
            long chance = BILLION;
            int node = 0;
            for (int i = 1; i < length; i++) {
                int to = people[from + i];
                int behind = ways.next[node * PEOPLE + to];
                if (behind < 0) {
                    return 0;
                }
                chance = chanceTo(node, to, chance);
                node = behind;
            }
            return chance * shareOpened(node) / 1000;
        }

        /** The likeliest HAND at its END, each HAND by its surest row; NONE if there is none. */
        private int surestEnd() {
            clearTally();
            rowTo[0] = town.first;
            int surest = NONE;
            for (int node = 0; node < ways.size; node++) {
                if (tally[node] > 0) {
                    if (Ways.handOf(ways.keys[node]) < town.hands) {
                        tellBehind(node);
                    } else if (surest < 0 || isSurer(tally[node], rowTo[node], surest)) {
                        surest = node;
                    }
                }
            }
            return surest;
        }

        // Rows to HANDS of one hand are of one length, so that their codes stand in the rows' order.
        private boolean isSurer(long chance, long row, int than) {
            return chance > tally[than] || chance == tally[than] && row < rowTo[than];
        }

        private void tellBehind(int node) {
            for (int to = 0; to < PEOPLE; to++) {
                int behind = ways.next[node * PEOPLE + to];
                if (behind >= 0) {
                    long chance = chanceTo(node, to, tally[node]);
                    long row = rowTo[node] << 3 | to;
                    if (chance > 0 && isSurer(chance, row, behind)) {
                        tally[behind] = chance;
                        rowTo[behind] = row;
                    }
                }
            }
        }
    }

    /** The ROW that is told, and those that were ended. */
    private static final class Rows {
        private static final int MOST_HANDS = 20;
        private static final int MOST_ROWS = 20;

        private final int[] now = new int[MOST_HANDS];
        private int length;
        private final int[] before = new int[MOST_ROWS * MOST_HANDS];
        private final int[] lengths = new int[MOST_ROWS];
        private int endedRows;

        private void clear() {
            length = 0;
            endedRows = 0;
        }

        private boolean add(int person) {
            if (length >= MOST_HANDS) {
                return false;
            }
            now[length] = person;
            length++;
            return true;
        }

        private boolean end() {
            if (endedRows >= MOST_ROWS) {
                return false;
            }
            System.arraycopy(now, 0, before, endedRows * MOST_HANDS, length);
            lengths[endedRows] = length;
            endedRows++;
            length = 0;
            return true;
        }

        private int firstWrong(Town town) {
            if (length == 0) {
                return NONE;
            }
            if (now[0] != town.first) {
                return 1;
            }
            long key = Ways.firstKey(town);
            for (int i = 1; i < length; i++) {
                if ((Ways.maySendTo(town, key) >> now[i] & 1) == 0) {
                    return i + 1;
                }
                key = Ways.keyBehind(town, key, now[i]);
            }
            return NONE;
        }
    }

    /** GUESSES of SORTS, and their CREDIT by the ROWS that were ended. */
    private static final class Guesses {
        private final int[] sorts = new int[GUESSES * PEOPLE];
        private final int[] numbers = new int[GUESSES * PEOPLE];
        private int toldGuesses;
        private final long[] odds = new long[GUESSES * Rows.MOST_ROWS];
        private final long[] shares = new long[GUESSES];

        private Guesses() {
            Arrays.fill(sorts, NONE);
        }

        private void clear() {
            Arrays.fill(sorts, NONE);
            toldGuesses = 0;
        }

        private boolean isTold(int guess) {
            return (toldGuesses >> guess & 1) != 0;
        }

        private void tell(int guess, int person, int sort, int number) {
            sorts[guess * PEOPLE + person] = sort;
            numbers[guess * PEOPLE + person] = number;
            toldGuesses |= 1 << guess;
        }

        private void putInto(Town town, int guess) {
            for (int p = 0; p < PEOPLE; p++) {
                if (sorts[guess * PEOPLE + p] >= 0) {
                    town.sort[p] = sorts[guess * PEOPLE + p];
                    town.number[p] = numbers[guess * PEOPLE + p];
                }
            }
        }

        private void noteOdds(int guess, Play play, Rows rows) {
            for (int row = 0; row < rows.endedRows; row++) {
                odds[guess * Rows.MOST_ROWS + row] =
                        play.oddsOf(rows.before, row * Rows.MOST_HANDS, rows.lengths[row]);
            }
        }

        private int creditOf(int guess, int rows) {
            int guessed = Integer.bitCount(toldGuesses);
            if (guessed == 0) {
                return NONE;
            }
            Arrays.fill(shares, 1000000 / guessed);
            for (int row = 0; row < rows; row++) {
                weighBy(row);
            }
            return (int) shares[guess];
        }

        private void weighBy(int row) {
            long together = 0;
            for (int g = 0; g < GUESSES; g++) {
                if (isTold(g)) {
                    shares[g] *= Math.max(1, odds[g * Rows.MOST_ROWS + row] / 1000);
                    together += shares[g];
                }
            }
            if (together <= 0) {
                return;
            }
            for (int g = 0; g < GUESSES; g++) {
                if (isTold(g)) {
                    shares[g] = shares[g] * 1000000 / together;
                }
            }
        }
    }

    /** Letters with pennies too few, and the sets of thieves that EXPLAIN them all. */
    private static final class Theft {
        private static final int MOST_LETTERS = 30;

        private final int[] through = new int[MOST_LETTERS];
        private final int[] few = new int[MOST_LETTERS];
        private int size;
        private int surely;
        private int possibly;
        private int sets;
        private int fewest;
        private final int[] setsWith = new int[PEOPLE];

        private void clear() {
            size = 0;
        }

        private boolean add(int people, int pennies) {
            if (size >= MOST_LETTERS) {
                return false;
            }
            through[size] = people;
            few[size] = pennies;
            size++;
            return true;
        }

        private boolean explains(int thieves) {
            for (int i = 0; i < size; i++) {
                if (Integer.bitCount(thieves & through[i]) != few[i]) {
                    return false;
                }
            }
            return true;
        }

        private void weigh(int people) {
            sets = 0;
            surely = (1 << people) - 1;
            possibly = 0;
            fewest = NONE;
            Arrays.fill(setsWith, 0);
            for (int thieves = 0; thieves < 1 << people; thieves++) {
                if (explains(thieves)) {
                    take(thieves, people);
                }
            }
            if (sets == 0) {
                surely = 0;
            }
        }

        private void take(int thieves, int people) {
            sets++;
            surely &= thieves;
            possibly |= thieves;
            if (fewest < 0 || Integer.bitCount(thieves) < Integer.bitCount(fewest)) {
                fewest = thieves;
            }
            for (int p = 0; p < people; p++) {
                setsWith[p] += thieves >> p & 1;
            }
        }

        private int whomToAsk(int people) {
            if (sets == 0) {
                return NONE;
            }
            int whom = NONE;
            int nearest = 0;
            for (int p = 0; p < people; p++) {
                int off = Math.abs(2 * setsWith[p] - sets);
                if (whom < 0 || off < nearest) {
                    whom = p;
                    nearest = off;
                }
            }
            return whom;
        }
    }

    /** WEEKS by a seed. */
    private static final class Weeks {
        private static final int MOST_WEEKS = 100;

        private boolean begun;
        private int seed;
        private int weeksOut;
        private int size;
        private final int[] openers = new int[MOST_WEEKS];
        private final int[] hands = new int[MOST_WEEKS];
        // The last week that each one is out.
        private final int[] outTill = new int[PEOPLE];

        private void clear() {
            begun = false;
            size = 0;
        }

        private void start(int newSeed, int out) {
            begun = true;
            seed = newSeed;
            weeksOut = out;
            size = 0;
            Arrays.fill(outTill, NONE);
        }

        private void copy(Weeks from) {
            begun = from.begun;
            seed = from.seed;
            weeksOut = from.weeksOut;
            size = from.size;
            System.arraycopy(from.openers, 0, openers, 0, MOST_WEEKS);
            System.arraycopy(from.hands, 0, hands, 0, MOST_WEEKS);
            System.arraycopy(from.outTill, 0, outTill, 0, PEOPLE);
        }

        private int draw(int n) {
            seed = seed * 1103515245 + 12345;
            return n > 0 ? (seed >>> 16 & 32767) % n : 0;
        }

        private int whoAreOut() {
            int bits = 0;
            for (int p = 0; p < PEOPLE; p++) {
                if (outTill[p] >= size) {
                    bits |= 1 << p;
                }
            }
            return bits;
        }

        private void runOne(Play play) {
            if (size >= MOST_WEEKS) {
                return;
            }
            int out = whoAreOut();
            openers[size] = NONE;
            hands[size] = 0;
            if ((out >> play.town.first & 1) == 0) {
                int node = 0;
                for (int hand = 1; hand < HANDS; hand++) {
                    int behind = nodeBehind(play, node, out);
                    if (behind < 0) {
                        break;
                    }
                    node = behind;
                }
                noteOpened(play.ways.keys[node], play.town.hands);
            }
            size++;
        }

        private void noteOpened(long key, int last) {
            int who = Ways.whoOf(key);
            openers[size] = who;
            hands[size] = Ways.handOf(key);
            if (hands[size] < last) {
                outTill[who] = size + weeksOut;
            }
        }

        /** The HAND it goes to; NONE if it is opened. */
        private int nodeBehind(Play play, int node, int out) {
            int may = play.ways.may[node];
            if (may == 0) {
                return NONE;
            }
            int who = Ways.whoOf(play.ways.keys[node]);
            int sort = play.town.sort[who];
            if (sort == LUCK) {
                if (draw(1000) < play.town.number[who]) {
                    return NONE;
                }
            } else if (play.shareOpened(node) > 0) {
                return NONE;
            }
            int bits = (sort == BEST ? play.targetsOf(node) : may) & ~out;
            if (bits == 0) {
                return NONE;
            }
            int to = sort == BEST ? play.choices[node] : drawnOf(play, who, bits);
            return to < 0 ? NONE : play.ways.next[node * PEOPLE + to];
        }

        private int drawnOf(Play play, int who, int bits) {
            int drawn = draw(play.weightsTo(who, bits));
            int together = 0;
            for (int to = 0; to < PEOPLE; to++) {
                if ((bits >> to & 1) != 0) {
                    together += play.weightTo(who, to);
                    if (together > drawn) {
                        return to;
                    }
                }
            }
            return NONE;
        }
    }
}
