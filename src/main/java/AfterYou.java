import java.util.Arrays;

/**
 * People at doors, and a book of courtesies by which one of two may go first.
 * Words in capitals in the comments are the document's terms.
 */
public final class AfterYou {
    public static final int NONE = -1, BAD = -2, NO = -3, FULL = -4;

    /** "not so many"; and BAD and NO of those calls where -2 and -3 are not told. */
    private static final int FEWER = -5, FAR_BAD = -10, FAR_NO = -20;

    private static final int MOST_PEOPLE = 8, MOST_AGE = 99, MOST_LOAD = 9, MOST_RANK = 9;
    private static final int PAIRS = MOST_PEOPLE * MOST_PEOPLE;
    private static final int CHILD = 1, LIMPS = 2, WIDOW = 3, MAYOR = 4, BISHOP = 5;
    private static final int MOST_BOWS = 99;

    private static final int MOST_BYTES = 160, MOST_ITEMS = 9, MOST_ROUNDS = 9, MOST_NUMBER = 99;
    private static final int OLDER = 0, YOUNGER = 1, LADEN = 2, UNLADEN = 3, HIGHER = 4, LOWER = 5;
    private static final int OWED = 6, TURN = 7, FIRST = 8, SECOND = 9, COURTESIES = 10;

    private static final int MOST_SORTED = 6, SHUT_MINUTES = 999;
    /** The orders of MOST_SORTED people. */
    private static final int MOST_ORDERS = 720;

    private static final int DOORS = 6, MOST_MINUTES = 99;
    private static final int MOST_EVENTS = 16, EVENT_SIZE = 3;
    private static final int IMAGES = 2;

    private final World world = new World();
    /** Nothing, where none was kept. */
    private final World[] images = new World[IMAGES];
    private final Book book = new Book();
    /** A book of one ITEM, for what a stranger learns. */
    private final Book single = new Book();
    private final Talk talking = new Talk();
    private final Passage passage = new Passage();
    private final Journey journey = new Journey();
    /** BOWS of which nothing stays. */
    private final Bows passing = new Bows();
    private final int[] naming = new int[PAIRS];
    private int above = 0;
    private int below = 1;
    private int bads = 0;
    private int noes = 0;
    private int fulls = 0;

    public AfterYou() {
    }

    // ---- people, a book

    public int person(int kind, int age, int load, int rank) {
        if (!within(kind, 0, BISHOP) || !within(age, 0, MOST_AGE)
                || !within(load, 0, MOST_LOAD) || !within(rank, 0, MOST_RANK)) {
            return bad(BAD);
        }
        if (world.people.size >= MOST_PEOPLE) {
            return full();
        }
        return world.people.add(kind, age, load, rank);
    }

    public int counts(int person, int what) {
        if (!world.people.has(person) || !within(what, 0, 2)) {
            return bad(BAD);
        }
        if (what == 0) {
            return world.people.ageOf(person);
        }
        return what == 1 ? world.people.loadOf(person) : world.people.rankOf(person);
    }

    public int owe(int by, int to, int bows) {
        if (!world.people.hasTwo(by, to) || !within(bows, 0, MOST_BOWS)) {
            return bad(BAD);
        }
        int were = world.bows.owed[pair(by, to)];
        world.bows.owed[pair(by, to)] = bows;
        return were;
    }

    public int owes(int by, int to) {
        if (!world.people.hasTwo(by, to)) {
            return bad(BAD);
        }
        return world.bows.owed[pair(by, to)];
    }

    public int type(long v, int n) {
        if (!within(n, 1, 8)) {
            return bad(BAD);
        }
        if (world.letters + n > MOST_BYTES) {
            return full();
        }
        for (int k = n - 1; k >= 0; k--) {
            world.text[world.letters] = (int) (v >>> (8 * k)) & 255;
            world.letters++;
        }
        book.read(world.text, world.letters);
        return world.letters;
    }

    public int clear() {
        int had = world.letters;
        world.letters = 0;
        book.read(world.text, world.letters);
        return had;
    }

    public int fault() {
        return book.faultAt;
    }

    public int item(int item, int what) {
        if (!within(item, 0, MOST_ITEMS - 1) || !within(what, 0, 3)) {
            return bad(BAD);
        }
        if (faulty()) {
            return no(NO);
        }
        if (item >= book.size) {
            return bad(BAD);
        }
        switch (what) {
            case 0:
                return book.round[item];
            case 1:
                return (book.againBits >> item) & 1;
            case 2:
                return book.courtesy[item];
            default:
                return book.least[item];
        }
    }

    // ---- two, queues

    public int talk(int a, int b, int what) {
        if (!world.people.hasTwo(a, b) || !within(what, 0, 2)) {
            return bad(BAD);
        }
        if (faulty()) {
            return no(NO);
        }
        talking.hold(book, world.people, world.bows, a, b);
        if (what == 0) {
            return talking.goer;
        }
        return what == 1 ? talking.rounds : talking.item;
    }

    public int meet(int a, int b) {
        if (!world.people.hasTwo(a, b)) {
            return bad(BAD);
        }
        if (faulty()) {
            return no(NO);
        }
        talking.hold(book, world.people, world.bows, a, b);
        if (talking.goer != NONE) {
            world.bows.wentFirst(talking.goer, talking.goer == a ? b : a);
        }
        return talking.goer;
    }

    public int come(int person) {
        if (!world.people.has(person) || world.isQueued(person)) {
            return bad(BAD);
        }
        world.queue[world.queued] = person;
        world.queued++;
        return world.queued;
    }

    public int disperse() {
        int were = world.queued;
        world.queued = 0;
        return were;
    }

    public int through(int i) {
        if (i < NONE) {
            return bad(FAR_BAD);
        }
        if (faulty()) {
            return no(FAR_NO);
        }
        passage.ask(book, world, talking);
        int minutes = passage.pass(world.queue, world.queued, NONE);
        if (minutes == NONE || i == NONE) {
            return minutes;
        }
        return i < world.queued ? passage.gone[i] : FEWER;
    }

    public int soonest(int i) {
        if (i < NONE) {
            return bad(FAR_BAD);
        }
        if (faulty() || world.queued > MOST_SORTED) {
            return no(FAR_NO);
        }
        passage.ask(book, world, talking);
        int minutes = passage.sort(world);
        if (minutes == NONE) {
            return no(FAR_NO);
        }
        if (i == NONE) {
            return minutes;
        }
        return i < world.queued ? passage.best[i] : FEWER;
    }

    public int avoid() {
        if (faulty()) {
            return no(NO);
        }
        passage.ask(book, world, talking);
        int avoided = NONE;
        int fewest = 0;
        for (int k = 0; k < world.queued; k++) {
            int minutes = passage.pass(world.queue, world.queued, world.queue[k]);
            if (minutes == NONE) {
                minutes = SHUT_MINUTES;
            }
            if (avoided == NONE || minutes < fewest) {
                avoided = world.queue[k];
                fewest = minutes;
            }
        }
        return avoided;
    }

    // ---- doors

    public int waits(int door, int person) {
        if (!isDoor(door) || (person != NONE && !world.people.has(person))) {
            return bad(FAR_BAD);
        }
        int did = world.waiting[door];
        world.waiting[door] = person;
        return did;
    }

    public int leg(int a, int b, int minutes) {
        if (!isDoor(a) || !isDoor(b) || a == b || !within(minutes, 0, MOST_MINUTES)) {
            return bad(BAD);
        }
        int was = world.legs[a * DOORS + b];
        world.legs[a * DOORS + b] = minutes;
        world.legs[b * DOORS + a] = minutes;
        return was;
    }

    public int way(int person, int from, int to, int i) {
        if (!world.people.has(person) || !isDoor(from) || !isDoor(to) || i < NONE) {
            return bad(FAR_BAD);
        }
        if (faulty()) {
            return no(FAR_NO);
        }
        for (int door = 0; door < DOORS; door++) {
            journey.toll[door] = tollAt(door, person);
        }
        int minutes = journey.go(world.legs, from, to);
        if (minutes == NONE || i == NONE) {
            return minutes;
        }
        return i < journey.steps ? journey.path[i] : FEWER;
    }

    // ---- days, bows

    public int tell(int a, int b, int went) {
        if (!world.people.hasTwo(a, b) || (went != a && went != b)) {
            return bad(BAD);
        }
        if (world.told >= MOST_EVENTS) {
            return full();
        }
        int at = world.told * EVENT_SIZE;
        world.events[at] = a;
        world.events[at + 1] = b;
        world.events[at + 2] = went;
        world.told++;
        return world.told - 1;
    }

    public int forget() {
        int were = world.told;
        world.told = 0;
        return were;
    }

    public int judge() {
        if (faulty()) {
            return no(NO);
        }
        return firstWrong(book);
    }

    public int learns() {
        int bits = 0;
        for (int courtesy = 0; courtesy < COURTESIES; courtesy++) {
            single.holdOnly(courtesy);
            if (firstWrong(single) == NONE) {
                bits |= 1 << courtesy;
            }
        }
        return bits;
    }

    public int struck(int by, int to) {
        boolean all = by == NONE && to == NONE;
        if (!all && !world.people.hasTwo(by, to)) {
            return bad(FAR_BAD);
        }
        passing.copy(world.bows);
        passing.strikeOut();
        return all ? passing.sum() : passing.owed[pair(by, to)];
    }

    public int have(int person, int other, boolean first) {
        if (!world.people.hasTwo(person, other)) {
            return bad(BAD);
        }
        if (faulty()) {
            return no(NO);
        }
        int told = world.people.load[person];
        int least = NONE;
        for (int load = 0; load <= MOST_LOAD && least == NONE; load++) {
            world.people.load[person] = load;
            if (goesFirst(person, other, first)) {
                least = load;
            }
        }
        world.people.load[person] = told;
        return least;
    }

    public int firsts(int person) {
        if (!world.people.has(person)) {
            return bad(BAD);
        }
        if (faulty() || world.people.size < 2) {
            return no(NO);
        }
        int won = 0;
        for (int other = 0; other < world.people.size; other++) {
            if (other != person) {
                won += goesFirst(person, other, true) ? 1 : 0;
                won += goesFirst(person, other, false) ? 1 : 0;
            }
        }
        setFraction(won, 2 * (world.people.size - 1));
        return 1;
    }

    public int strikes() {
        if (faulty()) {
            return no(NO);
        }
        int pairs = nameAllTwo();
        int best = NONE;
        for (int set = 0; set < 1 << book.size; set++) {
            boolean fewer = best == NONE || Integer.bitCount(set) < Integer.bitCount(best);
            if (fewer && allSettle(pairs, set)) {
                best = set;
            }
        }
        return best;
    }

    // ---- what there is

    public int part(int what) {
        if (!within(what, 0, 1)) {
            return bad(BAD);
        }
        return what == 0 ? above : below;
    }

    public int image(int i) {
        if (!within(i, 0, IMAGES - 1)) {
            return bad(BAD);
        }
        World kept = images[i] == null ? new World() : images[i];
        kept.copy(world);
        images[i] = kept;
        return 1;
    }

    public int from(int i) {
        if (!within(i, 0, IMAGES - 1)) {
            return bad(BAD);
        }
        World kept = images[i];
        if (kept == null) {
            return no(NO);
        }
        world.copy(kept);
        book.read(world.text, world.letters);
        return 1;
    }

    public int status(int what) {
        switch (what) {
            case 0:
                return bads;
            case 1:
                return noes;
            case 2:
                return fulls;
            default:
                return bad(-1);
        }
    }

    public int count(int what) {
        switch (what) {
            case 0:
                return world.people.size;
            case 1:
                return world.letters;
            case 2:
                return world.queued;
            case 3:
                return world.told;
            default:
                return bad(BAD);
        }
    }

    public long digest() {
        long h = 647;
        h = 31 * h + world.people.size;
        h = 31 * h + world.letters;
        h = 31 * h + world.queued;
        h = 31 * h + world.told;
        h = world.people.mixInto(h);
        h = world.bows.mixInto(h);
        h = mix(h, world.text, world.letters);
        h = mix(h, world.queue, world.queued);
        h = mix(h, world.waiting, DOORS);
        h = mixLegs(h);
        h = mix(h, world.events, world.told * EVENT_SIZE);
        h = 31 * h + above;
        return 31 * h + below;
    }

    // ---- refusals

    private int bad(int answer) {
        bads++;
        return answer;
    }

    private int no(int answer) {
        noes++;
        return answer;
    }

    private int full() {
        fulls++;
        return FULL;
    }

    private boolean faulty() {
        return book.faultAt != NONE;
    }

    private static boolean within(int number, int least, int most) {
        return number >= least && number <= most;
    }

    private static boolean isDoor(int door) {
        return within(door, 0, DOORS - 1);
    }

    private static int pair(int one, int other) {
        return one * MOST_PEOPLE + other;
    }

    // ---- helpers of the calls

    /** What he pays who comes to a DOOR; NONE: he can not come there. */
    private int tollAt(int door, int person) {
        int waiter = world.waiting[door];
        if (waiter == NONE || waiter == person) {
            return 0;
        }
        talking.hold(book, world.people, world.bows, waiter, person);
        if (talking.goer == NONE) {
            return NONE;
        }
        return talking.goer == waiter ? talking.rounds + 1 : talking.rounds;
    }

    /** The first EVENT that is not as a book has it. */
    private int firstWrong(Book by) {
        passing.copy(world.bows);
        for (int event = 0; event < world.told; event++) {
            int a = world.events[event * EVENT_SIZE];
            int b = world.events[event * EVENT_SIZE + 1];
            int went = world.events[event * EVENT_SIZE + 2];
            talking.hold(by, world.people, passing, a, b);
            if (talking.goer != went) {
                return event;
            }
            passing.wentFirst(went, went == a ? b : a);
        }
        return NONE;
    }

    private boolean goesFirst(int person, int other, boolean cameFirst) {
        if (cameFirst) {
            talking.hold(book, world.people, world.bows, person, other);
        } else {
            talking.hold(book, world.people, world.bows, other, person);
        }
        return talking.goer == person;
    }

    private void setFraction(int part, int whole) {
        above = part;
        below = whole;
        for (int divisor = whole; divisor > 1; divisor--) {
            if (above % divisor == 0 && below % divisor == 0) {
                above /= divisor;
                below /= divisor;
            }
        }
    }

    /** Fills the row of what names somebody, once for two: it is alike, whoever came first. */
    private int nameAllTwo() {
        int pairs = 0;
        for (int a = 0; a < world.people.size; a++) {
            for (int b = a + 1; b < world.people.size; b++) {
                naming[pairs] = book.naming(world.people, world.bows, a, b);
                pairs++;
            }
        }
        return pairs;
    }

    private boolean allSettle(int pairs, int without) {
        for (int k = 0; k < pairs; k++) {
            if (book.settledIn(naming[k] & ~without) == NONE) {
                return false;
            }
        }
        return true;
    }

    private long mixLegs(long before) {
        long h = before;
        for (int a = 0; a < DOORS; a++) {
            for (int b = a + 1; b < DOORS; b++) {
                h = 31 * h + world.legs[a * DOORS + b];
            }
        }
        return h;
    }

    private static long mix(long before, int[] row, int size) {
        long h = before;
        for (int k = 0; k < size && k < row.length; k++) {
            h = 31 * h + row[k];
        }
        return h;
    }

    /** PEOPLE as told, and how they count by their KINDS. */
    private static final class People {
        int size = 0;
        final int[] kind = new int[MOST_PEOPLE];
        final int[] age = new int[MOST_PEOPLE];
        final int[] load = new int[MOST_PEOPLE];
        final int[] rank = new int[MOST_PEOPLE];

        int add(int newKind, int newAge, int newLoad, int newRank) {
            kind[size] = newKind;
            age[size] = newAge;
            load[size] = newLoad;
            rank[size] = newRank;
            size++;
            return size - 1;
        }

        boolean has(int person) {
            return person >= 0 && person < size;
        }

        boolean hasTwo(int one, int other) {
            return has(one) && has(other) && one != other;
        }

        int ageOf(int person) {
            if (kind[person] == CHILD) {
                return 0;
            }
            return kind[person] == BISHOP ? age[person] + 20 : age[person];
        }

        int loadOf(int person) {
            boolean limps = kind[person] == LIMPS || kind[person] == WIDOW;
            return limps ? load[person] + 3 : load[person];
        }

        int rankOf(int person) {
            if (kind[person] == WIDOW) {
                return rank[person] + 2;
            }
            boolean mayor = kind[person] == MAYOR || kind[person] == BISHOP;
            return mayor ? 2 * rank[person] : rank[person];
        }

        void copy(People other) {
            size = other.size;
            System.arraycopy(other.kind, 0, kind, 0, MOST_PEOPLE);
            System.arraycopy(other.age, 0, age, 0, MOST_PEOPLE);
            System.arraycopy(other.load, 0, load, 0, MOST_PEOPLE);
            System.arraycopy(other.rank, 0, rank, 0, MOST_PEOPLE);
        }

        long mixInto(long before) {
            long h = before;
            for (int person = 0; person < size; person++) {
                h = 31 * h + kind[person];
                h = 31 * h + age[person];
                h = 31 * h + load[person];
                h = 31 * h + rank[person];
            }
            return h;
        }
    }

    /** BOWS that one OWES another, and who of two went first LAST. */
    private static final class Bows {
        final int[] owed = new int[PAIRS];
        /** Kept alike for (a, b) and (b, a), so that nobody has to sort the two. */
        final int[] last = new int[PAIRS];

        Bows() {
            Arrays.fill(last, NONE);
        }

        void copy(Bows other) {
            System.arraycopy(other.owed, 0, owed, 0, PAIRS);
            System.arraycopy(other.last, 0, last, 0, PAIRS);
        }

        void wentFirst(int goer, int other) {
            int at = pair(goer, other);
            owed[at] = Math.min(owed[at] + 1, MOST_BOWS);
            last[at] = goer;
            last[pair(other, goer)] = goer;
        }

        void strikeOut() {
            for (int a = 0; a < MOST_PEOPLE; a++) {
                for (int b = a + 1; b < MOST_PEOPLE; b++) {
                    int alike = Math.min(owed[pair(a, b)], owed[pair(b, a)]);
                    owed[pair(a, b)] -= alike;
                    owed[pair(b, a)] -= alike;
                }
            }
            for (int a = 0; a < MOST_PEOPLE; a++) {
                for (int b = a + 1; b < MOST_PEOPLE; b++) {
                    for (int c = b + 1; c < MOST_PEOPLE; c++) {
                        strikeRing(a, b, c);
                        strikeRing(a, c, b);
                    }
                }
            }
        }

        private void strikeRing(int a, int b, int c) {
            int alike = Math.min(owed[pair(a, b)], Math.min(owed[pair(b, c)], owed[pair(c, a)]));
            owed[pair(a, b)] -= alike;
            owed[pair(b, c)] -= alike;
            owed[pair(c, a)] -= alike;
        }

        int sum() {
            int sum = 0;
            for (int k = 0; k < PAIRS; k++) {
                sum += owed[k];
            }
            return sum;
        }

        long mixInto(long before) {
            long h = before;
            for (int by = 0; by < MOST_PEOPLE; by++) {
                for (int to = 0; to < MOST_PEOPLE; to++) {
                    h = 31 * h + owed[pair(by, to)];
                    if (by < to) {
                        h = 31 * h + last[pair(by, to)];
                    }
                }
            }
            return h;
        }
    }

    /** All that an IMAGE keeps. */
    private static final class World {
        final People people = new People();
        final Bows bows = new Bows();
        final int[] text = new int[MOST_BYTES];
        int letters = 0;
        final int[] queue = new int[MOST_PEOPLE];
        int queued = 0;
        final int[] waiting = new int[DOORS];
        final int[] legs = new int[DOORS * DOORS];
        final int[] events = new int[MOST_EVENTS * EVENT_SIZE];
        int told = 0;

        World() {
            Arrays.fill(waiting, NONE);
        }

        boolean isQueued(int person) {
            for (int k = 0; k < queued; k++) {
                if (queue[k] == person) {
                    return true;
                }
            }
            return false;
        }

        void copy(World other) {
            people.copy(other.people);
            bows.copy(other.bows);
            letters = other.letters;
            queued = other.queued;
            told = other.told;
            System.arraycopy(other.text, 0, text, 0, MOST_BYTES);
            System.arraycopy(other.queue, 0, queue, 0, MOST_PEOPLE);
            System.arraycopy(other.waiting, 0, waiting, 0, DOORS);
            System.arraycopy(other.legs, 0, legs, 0, DOORS * DOORS);
            System.arraycopy(other.events, 0, events, 0, MOST_EVENTS * EVENT_SIZE);
        }
    }

    /** THE BOOK's TEXT, TOKEN by TOKEN. */
    private static final class Tokens {
        /** What a TOKEN is, beside the COURTESIES 0 .. 9. */
        static final int START = 10, AGAIN = 11, NUMBER = 12, END = 13, WRONG = 14, OVER = 15;
        private static final int WORDS = 12, WORD_ROOM = 8;
        /** The words by their numbers, blanks behind each; no Strings, as each look at one may count as made. */
        private static final char[] LETTERS = {
            'o', 'l', 'd', 'e', 'r', ' ', ' ', ' ',
            'y', 'o', 'u', 'n', 'g', 'e', 'r', ' ',
            'l', 'a', 'd', 'e', 'n', ' ', ' ', ' ',
            'u', 'n', 'l', 'a', 'd', 'e', 'n', ' ',
            'h', 'i', 'g', 'h', 'e', 'r', ' ', ' ',
            'l', 'o', 'w', 'e', 'r', ' ', ' ', ' ',
            'o', 'w', 'e', 'd', ' ', ' ', ' ', ' ',
            't', 'u', 'r', 'n', ' ', ' ', ' ', ' ',
            'f', 'i', 'r', 's', 't', ' ', ' ', ' ',
            's', 'e', 'c', 'o', 'n', 'd', ' ', ' ',
            'f', 'r', 'o', 'm', ' ', ' ', ' ', ' ',
            'a', 'g', 'a', 'i', 'n', ' ', ' ', ' ',
        };

        private int[] text = new int[0];
        private int length = 0;
        private int next = 0;
        /** Where the TOKEN read last begins. */
        int place = 0;
        /** What it is worth, if it is a number. */
        int value = 0;

        void open(int[] newText, int newLength) {
            text = newText;
            length = Math.min(newLength, newText.length);
            next = 0;
        }

        int read() {
            while (next < length && text[next] == ' ') {
                next++;
            }
            place = next;
            if (next >= length) {
                return OVER;
            }
            if (isLetter(text[next])) {
                return readWord();
            }
            if (isFigure(text[next])) {
                return readNumber();
            }
            next++;
            return text[place] == ';' ? END : WRONG;
        }

        private int readWord() {
            while (next < length && isLetter(text[next])) {
                next++;
            }
            for (int word = 0; word < WORDS; word++) {
                if (spells(word)) {
                    return word;
                }
            }
            return WRONG;
        }

        private int readNumber() {
            value = 0;
            while (next < length && isFigure(text[next])) {
                // Past two figures the worth does not matter, so it is held low.
                value = (value * 10 + text[next] - '0') % 1000;
                next++;
            }
            return next - place <= 2 ? NUMBER : WRONG;
        }

        /** Whether the letters just read are a word of the table. */
        private boolean spells(int word) {
            int start = word * WORD_ROOM;
            int size = next - place;
            if (size >= WORD_ROOM || LETTERS[start + size] != ' ') {
                return false;
            }
            for (int k = 0; k < size; k++) {
                if (LETTERS[start + k] != text[place + k]) {
                    return false;
                }
            }
            return true;
        }

        private static boolean isLetter(int sign) {
            return sign >= 'a' && sign <= 'z';
        }

        private static boolean isFigure(int sign) {
            return sign >= '0' && sign <= '9';
        }
    }

    /** ITEMS as read from a TEXT, and whom they name. */
    private static final class Book {
        /** What was read of an ITEM so far. */
        private static final int NOTHING = 0, FROM_WORD = 1, FROM_ROUND = 2, AGAIN_WORD = 3;
        private static final int COURTESY_WORD = 4, COURTESY_NUMBER = 5, STUCK = 6;

        private final Tokens tokens = new Tokens();
        int faultAt = NONE;
        int size = 0;
        int againBits = 0;
        final int[] round = new int[MOST_ITEMS];
        final int[] courtesy = new int[MOST_ITEMS];
        final int[] least = new int[MOST_ITEMS];
        /** Of each ROUND, bits of the ITEMS whose r is no more. */
        private final int[] asked = new int[MOST_ROUNDS + 1];

        void read(int[] text, int length) {
            size = 0;
            againBits = 0;
            faultAt = readItems(text, length);
            sortByRounds();
        }

        void holdOnly(int onlyCourtesy) {
            faultAt = NONE;
            size = 1;
            againBits = 0;
            round[0] = 1;
            courtesy[0] = onlyCourtesy;
            least[0] = 1;
            sortByRounds();
        }

        private int readItems(int[] text, int length) {
            tokens.open(text, length);
            int stage = NOTHING;
            for (int k = 0; k <= length; k++) {
                int token = tokens.read();
                if (token == Tokens.OVER) {
                    return stage == NOTHING ? NONE : length;
                }
                stage = take(stage, token);
                if (stage == STUCK) {
                    return tokens.place;
                }
            }
            return NONE;
        }

        /** The stage behind a TOKEN; STUCK: it can not stand there. */
        private int take(int stage, int token) {
            switch (stage) {
                case NOTHING:
                    return takeStart(token);
                case FROM_WORD:
                    return takeRound(token);
                case FROM_ROUND:
                    return takeAgain(token);
                case AGAIN_WORD:
                    return takeCourtesy(token);
                case COURTESY_WORD:
                    return token == Tokens.NUMBER ? takeLeast() : takeEnd(token);
                case COURTESY_NUMBER:
                    return takeEnd(token);
                default:
                    return STUCK;
            }
        }

        private int takeStart(int token) {
            if (size >= MOST_ITEMS) {
                return STUCK;
            }
            round[size] = 1;
            least[size] = 1;
            return token == Tokens.START ? FROM_WORD : takeAgain(token);
        }

        private int takeRound(int token) {
            if (token != Tokens.NUMBER || !within(tokens.value, 1, MOST_ROUNDS)) {
                return STUCK;
            }
            round[size] = tokens.value;
            return FROM_ROUND;
        }

        private int takeAgain(int token) {
            if (token != Tokens.AGAIN) {
                return takeCourtesy(token);
            }
            againBits |= 1 << size;
            return AGAIN_WORD;
        }

        private int takeCourtesy(int token) {
            if (token >= COURTESIES) {
                return STUCK;
            }
            courtesy[size] = token;
            return COURTESY_WORD;
        }

        private int takeLeast() {
            if (!within(tokens.value, 1, MOST_NUMBER)) {
                return STUCK;
            }
            least[size] = tokens.value;
            return COURTESY_NUMBER;
        }

        private int takeEnd(int token) {
            if (token != Tokens.END) {
                return STUCK;
            }
            size++;
            return NOTHING;
        }

        private void sortByRounds() {
            for (int k = 1; k <= MOST_ROUNDS; k++) {
                asked[k] = 0;
                for (int item = 0; item < size; item++) {
                    if (round[item] <= k) {
                        asked[k] |= 1 << item;
                    }
                }
            }
        }

        /** Bits of the ITEMS that name one of two: they are alike, whoever came first. */
        int naming(People people, Bows bows, int one, int other) {
            int bits = 0;
            for (int item = 0; item < size; item++) {
                if (named(item, people, bows, one, other) != NONE) {
                    bits |= 1 << item;
                }
            }
            return bits;
        }

        /** The ROUND in which one goes, by bits of the ITEMS that name somebody. NONE: NEVER. */
        int settledIn(int bits) {
            for (int k = 1; k <= MOST_ROUNDS; k++) {
                int naming = bits & asked[k];
                int counting = naming & -naming;
                if (counting != 0 && (counting & againBits) == 0) {
                    return k;
                }
            }
            return NONE;
        }

        /** The ITEM that counts in a ROUND in which one goes. */
        int countingItem(int bits, int settledRound) {
            for (int item = 0; item < size; item++) {
                if ((bits & asked[settledRound] & 1 << item) != 0) {
                    return item;
                }
            }
            return NONE;
        }

        int named(int item, People people, Bows bows, int first, int second) {
            switch (courtesy[item]) {
                case TURN:
                    int last = bows.last[pair(first, second)];
                    if (last == NONE) {
                        return NONE;
                    }
                    return last == first ? second : first;
                case FIRST:
                    return first;
                case SECOND:
                    return second;
                default:
                    int lead = leadOf(courtesy[item], people, bows, first, second);
                    if (lead >= least[item]) {
                        return first;
                    }
                    return -lead >= least[item] ? second : NONE;
            }
        }

        /** By how much a COURTESY is for the first of two; below 0: for the second. */
        private static int leadOf(int courtesy, People people, Bows bows, int first, int second) {
            switch (courtesy) {
                case OLDER:
                    return people.ageOf(first) - people.ageOf(second);
                case YOUNGER:
                    return people.ageOf(second) - people.ageOf(first);
                case LADEN:
                    return people.loadOf(first) - people.loadOf(second);
                case UNLADEN:
                    return people.loadOf(second) - people.loadOf(first);
                case HIGHER:
                    return people.rankOf(first) - people.rankOf(second);
                case LOWER:
                    return people.rankOf(second) - people.rankOf(first);
                default:
                    return bows.owed[pair(second, first)] - bows.owed[pair(first, second)];
            }
        }
    }

    /** A TALK and how it ended. */
    private static final class Talk {
        int goer = NONE;
        int rounds = MOST_ROUNDS;
        int item = NONE;

        void hold(Book book, People people, Bows bows, int first, int second) {
            int bits = book.naming(people, bows, first, second);
            int round = book.settledIn(bits);
            item = round == NONE ? NONE : book.countingItem(bits, round);
            if (item == NONE) {
                goer = NONE;
                rounds = MOST_ROUNDS;
                return;
            }
            rounds = round;
            // Behind each ROUND the other one came first, so in even ones the second did.
            boolean swapped = round % 2 == 0;
            goer = book.named(item, people, bows, swapped ? second : first, swapped ? first : second);
        }
    }

    /** How a queue goes through a DOOR. */
    private static final class Passage {
        /** By who came first and second. */
        private final int[] goer = new int[PAIRS];
        private final int[] rounds = new int[PAIRS];
        final int[] gone = new int[MOST_PEOPLE];
        private final int[] order = new int[MOST_PEOPLE];
        final int[] best = new int[MOST_PEOPLE];

        /**
         * Holds all TALKS there can be. No two MEET twice in a queue, so what they
         * come to OWE on the way never counts in it.
         */
        void ask(Book book, World world, Talk talking) {
            for (int i = 0; i < world.queued; i++) {
                for (int j = 0; j < world.queued; j++) {
                    if (i != j) {
                        int at = pair(world.queue[i], world.queue[j]);
                        talking.hold(book, world.people, world.bows, world.queue[i], world.queue[j]);
                        goer[at] = talking.goer;
                        rounds[at] = talking.rounds;
                    }
                }
            }
        }

        /** MINUTES of a row without one of it (NONE: with all). NONE: SHUT. */
        int pass(int[] row, int size, int without) {
            int waiter = NONE;
            int through = 0;
            int minutes = 0;
            for (int k = 0; k < size; k++) {
                int comer = row[k];
                if (comer == without) {
                    continue;
                }
                if (waiter == NONE) {
                    waiter = comer;
                    continue;
                }
                int at = pair(waiter, comer);
                if (goer[at] == NONE) {
                    return NONE;
                }
                minutes += rounds[at] + 1;
                gone[through] = goer[at];
                through++;
                waiter = goer[at] == waiter ? comer : waiter;
            }
            if (waiter != NONE) {
                gone[through] = waiter;
                minutes++;
            }
            return minutes;
        }

        /** The fewest MINUTES of all orders; NONE: all SHUT. */
        int sort(World world) {
            int size = 0;
            for (int person = 0; person < MOST_PEOPLE; person++) {
                if (world.isQueued(person)) {
                    order[size] = person;
                    size++;
                }
            }
            int fewest = NONE;
            boolean more = true;
            for (int k = 0; k < MOST_ORDERS && more; k++) {
                int minutes = pass(order, size, NONE);
                if (minutes != NONE && (fewest == NONE || minutes < fewest)) {
                    fewest = minutes;
                    System.arraycopy(order, 0, best, 0, size);
                }
                more = nextOrder(size);
            }
            return fewest;
        }

        /** The next order by numbers, if there is one. */
        private boolean nextOrder(int size) {
            int rise = size - 2;
            while (rise >= 0 && order[rise] > order[rise + 1]) {
                rise--;
            }
            if (rise < 0) {
                return false;
            }
            int above = size - 1;
            while (above > rise + 1 && order[above] < order[rise]) {
                above--;
            }
            swap(rise, above);
            for (int low = rise + 1, high = size - 1; low < high; low++, high--) {
                swap(low, high);
            }
            return true;
        }

        private void swap(int i, int j) {
            int held = order[i];
            order[i] = order[j];
            order[j] = held;
        }
    }

    /** A WAY over LEGS and DOORS. */
    private static final class Journey {
        /** Above all minutes that a WAY can take. */
        private static final int FAR = 1000000;

        /** What each DOOR takes from him who comes to it; NONE: he can not. */
        final int[] toll = new int[DOORS];
        private final int[] rest = new int[DOORS];
        final int[] path = new int[DOORS];
        int steps = 0;

        /** The fewest minutes; NONE: there is no WAY. */
        int go(int[] legs, int start, int goal) {
            measure(legs, goal);
            if (rest[start] >= FAR) {
                return NONE;
            }
            path[0] = start;
            steps = 1;
            for (int k = 1; k < DOORS && path[k - 1] != goal; k++) {
                path[k] = nextDoor(legs, path[k - 1]);
                steps++;
            }
            return rest[start];
        }

        /** Minutes of the rest of the WAY, from each DOOR on: no WAY has more than five LEGS. */
        private void measure(int[] legs, int goal) {
            Arrays.fill(rest, FAR);
            rest[goal] = 0;
            for (int k = 1; k < DOORS; k++) {
                for (int a = 0; a < DOORS; a++) {
                    for (int b = 0; b < DOORS; b++) {
                        rest[a] = Math.min(rest[a], over(legs, a, b));
                    }
                }
            }
        }

        /** Minutes of the rest from a DOOR on, if another one is next. */
        private int over(int[] legs, int a, int b) {
            int minutes = legs[a * DOORS + b];
            if (minutes == 0 || toll[b] == NONE) {
                return FAR;
            }
            return Math.min(FAR, minutes + toll[b] + rest[b]);
        }

        /** The first DOOR by number with which it takes no longer than it must. */
        private int nextDoor(int[] legs, int door) {
            for (int b = 0; b < DOORS; b++) {
                if (over(legs, door, b) == rest[door]) {
                    return b;
                }
            }
            return door;
        }
    }
}
