import java.util.ArrayList;
import java.util.Arrays;
import java.util.List;
import java.util.Random;

/**
 * Random runs on AfterYou and on a slow model of the document side by side.
 * The model goes the long way everywhere: TALK round by round, queues by real meetings,
 * ways and orders one by one.
 */
public final class ModelTest {
    private static final int RUNS = 400, CALLS = 500;
    private static final String[] CALL_NAMES = {"person", "counts", "owe", "owes", "type", "clear", "fault", "item",
        "talk", "meet", "come", "disperse", "through", "soonest", "avoid", "waits", "leg", "way", "tell", "forget",
        "judge", "learns", "struck", "have", "firsts", "strikes", "part", "image", "from", "status", "count",
        "digest"};
    /** How often each call is made, beside others. */
    private static final int[] OFTEN = {6, 4, 8, 4, 2, 1, 3, 6, 10, 10, 8, 1, 12, 4, 8, 8, 12, 14, 10, 1, 8, 6, 8, 8, 6,
        3, 3, 2, 2, 2, 2, 3};
    private static final String[] WORDS = {"older", "younger", "laden", "unladen", "higher", "lower", "owed", "turn",
        "first", "second"};

    private static int wrong = 0;
    private static final int[] told = new int[CALL_NAMES.length];
    private static final int[] refused = new int[CALL_NAMES.length];

    public static void main(String[] args) {
        for (int run = 0; run < RUNS && wrong < 10; run++) {
            oneRun(run);
        }
        for (int c = 0; c < told.length; c++) {
            if (told[c] == 0) {
                wrong++;
                System.out.println(CALL_NAMES[c] + " was never answered but by a refusal");
            }
        }
        if (args.length > 0) {
            for (int c = 0; c < told.length; c++) {
                System.out.println(CALL_NAMES[c] + ": told " + told[c] + ", refused " + refused[c]);
            }
        }
        System.out.println(wrong == 0 ? "as the model answers" : wrong + " answers are not the model's");
        if (wrong != 0) {
            System.exit(1);
        }
    }

    private static void oneRun(int run) {
        Random random = new Random(run);
        AfterYou x = new AfterYou();
        Model m = new Model();
        int calls = 0;
        int first = 2 + random.nextInt(6);
        for (int i = 0; i < first; i++) {
            int[] a = {random.nextInt(6), random.nextInt(100), random.nextInt(10), random.nextInt(10)};
            same(run, "person", a, x.person(a[0], a[1], a[2], a[3]), m.person(a[0], a[1], a[2], a[3]));
            calls++;
        }
        calls += write(run, x, m, book(random));
        while (calls < CALLS - 30 && wrong < 10) {
            if (random.nextInt(25) == 0) {
                same(run, "clear", new int[0], x.clear(), m.clear());
                calls += write(run, x, m, book(random)) + 1;
            } else {
                one(run, random, x, m);
                calls++;
            }
        }
    }

    private static int write(int run, AfterYou x, Model m, String text) {
        int calls = 0;
        for (int i = 0; i < text.length(); i += 8) {
            int n = Math.min(8, text.length() - i);
            long v = 0x5555555555555555L;
            for (int k = 0; k < n; k++) {
                v = v << 8 | text.charAt(i + k);
            }
            same(run, "type", new int[] {n}, x.type(v, n), m.type(v, n));
            calls++;
        }
        return calls;
    }

    private static String book(Random random) {
        StringBuilder out = new StringBuilder();
        int items = random.nextInt(9) == 0 ? 8 + random.nextInt(3) : random.nextInt(7);
        for (int i = 0; i < items; i++) {
            if (random.nextInt(3) == 0) {
                out.append("from ").append(1 + random.nextInt(9)).append(' ');
            }
            if (random.nextInt(4) == 0) {
                out.append("again ");
            }
            out.append(WORDS[random.nextInt(10)]);
            if (random.nextInt(3) == 0) {
                out.append(' ').append(1 + random.nextInt(random.nextBoolean() ? 9 : 40));
            }
            out.append(random.nextInt(5) == 0 ? " ; " : ";");
        }
        if (random.nextInt(5) == 0 && out.length() > 0) {
            String odd = "; 0159azA~ from again";
            int at = random.nextInt(out.length());
            char sign = random.nextInt(9) == 0 ? (char) random.nextInt(256) : odd.charAt(random.nextInt(odd.length()));
            switch (random.nextInt(3)) {
                case 0:
                    out.insert(at, sign);
                    break;
                case 1:
                    out.setCharAt(at, sign);
                    break;
                default:
                    out.deleteCharAt(at);
            }
        }
        return out.toString();
    }

    private static void same(int run, String call, int[] args, long got, long want) {
        int c = Arrays.asList(CALL_NAMES).indexOf(call);
        if (want < -1 && want > -21) {
            refused[c]++;
        } else {
            told[c]++;
        }
        if (got != want) {
            wrong++;
            System.out.println("run " + run + ": " + call + Arrays.toString(args) + " answered " + got
                    + ", the model answers " + want);
        }
    }

    private static int number(Random random, int most) {
        int odd = random.nextInt(40);
        if (odd == 0) {
            return -1;
        }
        if (odd == 1) {
            return most + 1;
        }
        return odd == 2 ? new int[] {Integer.MAX_VALUE, Integer.MIN_VALUE, -2, 99}[random.nextInt(4)]
                : random.nextInt(most + 1);
    }

    private static void one(int run, Random random, AfterYou x, Model m) {
        int all = Arrays.stream(OFTEN).sum();
        int at = random.nextInt(all);
        int call = 0;
        while (at >= OFTEN[call]) {
            at -= OFTEN[call];
            call++;
        }
        String name = CALL_NAMES[call];
        int last = Math.max(0, m.people.size() - 1);
        int p = number(random, last), q = number(random, last), i = random.nextInt(4) == 0 ? -1 : number(random, 7);
        if (p == q && random.nextInt(8) != 0 && last > 0) {
            q = (Math.abs(p % 8) + 1 + random.nextInt(last)) % (last + 1);
        }
        int what = number(random, 3), door = number(random, 5), other = number(random, 5);
        int[] a = {p, q, i, what, door, other};
        long got = 0;
        long want = 0;
        switch (name) {
            case "person": {
                int[] b = {number(random, 5), number(random, 99), number(random, 9), number(random, 9)};
                if (random.nextInt(4) != 0) {
                    return;
                }
                got = x.person(b[0], b[1], b[2], b[3]);
                want = m.person(b[0], b[1], b[2], b[3]);
                break;
            }
            case "counts": got = x.counts(p, what); want = m.counts(p, what); break;
            case "owe": {
                int bows = random.nextInt(3) == 0 ? 97 + random.nextInt(3) : number(random, 9);
                got = x.owe(p, q, bows);
                want = m.owe(p, q, bows);
                break;
            }
            case "owes": got = x.owes(p, q); want = m.owes(p, q); break;
            case "type": {
                long v = random.nextInt(4) == 0 ? random.nextLong() : 0x3b20203b66697273L;
                int n = number(random, 8);
                if (random.nextInt(5) != 0) {
                    n = 0;
                }
                got = x.type(v, n);
                want = m.type(v, n);
                break;
            }
            case "clear":
                if (random.nextInt(5) != 0) {
                    return;
                }
                got = x.clear();
                want = m.clear();
                break;
            case "fault": got = x.fault(); want = m.fault(); break;
            case "item": got = x.item(number0(i), what); want = m.item(number0(i), what); break;
            case "talk": got = x.talk(p, q, what); want = m.talk(p, q, what); break;
            case "meet": got = x.meet(p, q); want = m.meet(p, q); break;
            case "come": got = x.come(p); want = m.come(p); break;
            case "disperse": got = x.disperse(); want = m.disperse(); break;
            case "through": got = x.through(i); want = m.through(i); break;
            case "soonest": got = x.soonest(i); want = m.soonest(i); break;
            case "avoid": got = x.avoid(); want = m.avoid(); break;
            case "waits": got = x.waits(door, p); want = m.waits(door, p); break;
            case "leg": {
                int minutes = random.nextInt(5) == 0 ? number(random, 99) : random.nextInt(4) * 3;
                got = x.leg(door, other, minutes);
                want = m.leg(door, other, minutes);
                break;
            }
            case "way": got = x.way(p, door, other, i); want = m.way(p, door, other, i); break;
            case "tell": {
                int went = random.nextInt(10) == 0 ? number(random, last) : random.nextBoolean() ? p : q;
                // Mostly as the book has it, so that days are judged far in.
                if (random.nextInt(9) != 0 && m.two(p, q) && m.fault() == -1 && m.talk(m.items(), p, q)[0] >= 0) {
                    went = m.talk(m.items(), p, q)[0];
                }
                got = x.tell(p, q, went);
                want = m.tell(p, q, went);
                break;
            }
            case "forget": got = x.forget(); want = m.forget(); break;
            case "judge": got = x.judge(); want = m.judge(); break;
            case "learns": got = x.learns(); want = m.learns(); break;
            case "struck":
                if (random.nextInt(3) == 0) {
                    p = -1;
                    q = -1;
                }
                got = x.struck(p, q);
                want = m.struck(p, q);
                break;
            case "have": got = x.have(p, q, what > 1); want = m.have(p, q, what > 1); break;
            case "firsts": got = x.firsts(p); want = m.firsts(p); break;
            case "strikes": got = x.strikes(); want = m.strikes(); break;
            case "part": got = x.part(what); want = m.part(what); break;
            case "image": got = x.image(what - 1); want = m.image(what - 1); break;
            case "from": got = x.from(what - 1); want = m.from(what - 1); break;
            case "status":
                got = x.status(what);
                if (what < 0 || what > 2) {
                    m.bads++;
                    want = -1;
                } else {
                    want = what == 0 ? m.bads : what == 1 ? m.noes : m.fulls;
                }
                break;
            case "count": got = x.count(what); want = m.count(what); break;
            default: got = x.digest(); want = m.digest();
        }
        same(run, name, a, got, want);
    }

    private static int number0(int i) {
        return i < 0 ? 0 : i;
    }

    /** What an image keeps. */
    private static class State {
        List<int[]> people = new ArrayList<>();
        int[][] bows = new int[8][8];
        int[][] last = new int[8][8];
        List<Integer> text = new ArrayList<>();
        List<Integer> queue = new ArrayList<>();
        int[] wait = {-1, -1, -1, -1, -1, -1};
        int[][] legs = new int[6][6];
        List<int[]> events = new ArrayList<>();

        State() {
            for (int[] row : last) {
                Arrays.fill(row, -1);
            }
        }

        void take(State s) {
            people = new ArrayList<>();
            for (int[] p : s.people) {
                people.add(p.clone());
            }
            bows = deep(s.bows);
            last = deep(s.last);
            text = new ArrayList<>(s.text);
            queue = new ArrayList<>(s.queue);
            wait = s.wait.clone();
            legs = deep(s.legs);
            events = new ArrayList<>(s.events);
        }
    }

    private static int[][] deep(int[][] rows) {
        int[][] out = new int[rows.length][];
        for (int i = 0; i < rows.length; i++) {
            out[i] = rows[i].clone();
        }
        return out;
    }

    /** An item: r, again, courtesy, n. */
    private static final class Model extends State {
        State[] images = new State[2];
        int above = 0, below = 1, bads, noes, fulls;

        int bad(int a) {
            bads++;
            return a;
        }

        int no(int a) {
            noes++;
            return a;
        }

        boolean is(int p) {
            return p >= 0 && p < people.size();
        }

        boolean two(int a, int b) {
            return is(a) && is(b) && a != b;
        }

        int person(int k, int a, int l, int r) {
            if (k < 0 || k > 5 || a < 0 || a > 99 || l < 0 || l > 9 || r < 0 || r > 9) {
                return bad(-2);
            }
            if (people.size() == 8) {
                fulls++;
                return -4;
            }
            people.add(new int[] {k, a, l, r});
            return people.size() - 1;
        }

        int value(int p, int what) {
            int[] t = people.get(p);
            int[] plus = new int[][] {{0, 0, 0}, {-t[1], 0, 0}, {0, 3, 0}, {0, 3, 2}, {0, 0, t[3]}, {20, 0, t[3]}}[t[0]];
            return t[what + 1] + plus[what];
        }

        int counts(int p, int what) {
            return !is(p) || what < 0 || what > 2 ? bad(-2) : value(p, what);
        }

        int owe(int a, int b, int n) {
            if (!two(a, b) || n < 0 || n > 99) {
                return bad(-2);
            }
            int was = bows[a][b];
            bows[a][b] = n;
            return was;
        }

        int owes(int a, int b) {
            return two(a, b) ? bows[a][b] : bad(-2);
        }

        int type(long v, int n) {
            if (n < 1 || n > 8) {
                return bad(-2);
            }
            if (text.size() + n > 160) {
                fulls++;
                return -4;
            }
            for (int k = n - 1; k >= 0; k--) {
                text.add((int) (v >> 8 * k & 255));
            }
            return text.size();
        }

        int clear() {
            int was = text.size();
            text.clear();
            return was;
        }

        /** The items read, or the fault as the only number. */
        Object read() {
            StringBuilder all = new StringBuilder();
            for (int b : text) {
                all.append((char) b);
            }
            List<int[]> items = new ArrayList<>();
            List<String> tokens = new ArrayList<>();
            List<Integer> places = new ArrayList<>();
            java.util.regex.Matcher m = java.util.regex.Pattern.compile("[a-z]+|[0-9]+|[^ ]", java.util.regex.Pattern.DOTALL)
                    .matcher(all);
            while (m.find()) {
                tokens.add(m.group());
                places.add(m.start());
            }
            int t = 0;
            while (t < tokens.size()) {
                int[] item = {1, 0, 0, 1};
                if (items.size() == 9) {
                    return places.get(t);
                }
                if (tokens.get(t).equals("from")) {
                    t++;
                    if (t == tokens.size()) {
                        return text.size();
                    }
                    if (!tokens.get(t).matches("0?[1-9]")) {
                        return places.get(t);
                    }
                    item[0] = Integer.parseInt(tokens.get(t));
                    t++;
                }
                if (t < tokens.size() && tokens.get(t).equals("again")) {
                    item[1] = 1;
                    t++;
                }
                if (t == tokens.size()) {
                    return text.size();
                }
                item[2] = Arrays.asList(WORDS).indexOf(tokens.get(t));
                if (item[2] < 0) {
                    return places.get(t);
                }
                t++;
                if (t < tokens.size() && tokens.get(t).matches("0?[1-9]|[1-9][0-9]")) {
                    item[3] = Integer.parseInt(tokens.get(t));
                    t++;
                }
                if (t == tokens.size()) {
                    return text.size();
                }
                if (!tokens.get(t).equals(";")) {
                    return places.get(t);
                }
                t++;
                items.add(item);
            }
            return items;
        }

        int fault() {
            Object r = read();
            return r instanceof Integer ? (Integer) r : -1;
        }

        @SuppressWarnings("unchecked")
        List<int[]> items() {
            return (List<int[]>) read();
        }

        int item(int i, int what) {
            if (i < 0 || i > 8 || what < 0 || what > 3) {
                return bad(-2);
            }
            if (fault() >= 0) {
                return no(-3);
            }
            return i < items().size() ? items().get(i)[what] : bad(-2);
        }

        int named(int[] item, int f, int s) {
            int c = item[2];
            if (c == 8) {
                return f;
            }
            if (c == 9) {
                return s;
            }
            if (c == 7) {
                int l = last[f][s];
                return l < 0 ? -1 : f + s - l;
            }
            for (int k = 0; k < 2; k++) {
                int one = k == 0 ? f : s, two = f + s - one;
                int by = c == 6 ? bows[two][one] - bows[one][two]
                        : (value(one, c / 2) - value(two, c / 2)) * (c % 2 == 0 ? 1 : -1);
                if (by >= item[3]) {
                    return one;
                }
            }
            return -1;
        }

        /** Who goes, rounds, item. */
        int[] talk(List<int[]> items, int a, int b) {
            int f = a, s = b;
            for (int round = 1; round <= 9; round++) {
                for (int i = 0; i < items.size(); i++) {
                    int who = items.get(i)[0] <= round ? named(items.get(i), f, s) : -1;
                    if (who >= 0) {
                        if (items.get(i)[1] == 0) {
                            return new int[] {who, round, i};
                        }
                        break;
                    }
                }
                int t = f;
                f = s;
                s = t;
            }
            return new int[] {-1, 9, -1};
        }

        int talk(int a, int b, int what) {
            if (!two(a, b) || what < 0 || what > 2) {
                return bad(-2);
            }
            return fault() >= 0 ? no(-3) : talk(items(), a, b)[what];
        }

        void note(int went, int other) {
            bows[went][other] = Math.min(99, bows[went][other] + 1);
            last[went][other] = went;
            last[other][went] = went;
        }

        int meet(int a, int b) {
            if (!two(a, b)) {
                return bad(-2);
            }
            if (fault() >= 0) {
                return no(-3);
            }
            int went = talk(items(), a, b)[0];
            if (went >= 0) {
                note(went, a + b - went);
            }
            return went;
        }

        int come(int p) {
            if (!is(p) || queue.contains(p)) {
                return bad(-2);
            }
            queue.add(p);
            return queue.size();
        }

        int disperse() {
            int was = queue.size();
            queue.clear();
            return was;
        }

        /** Minutes, then who goes; null: shut. */
        List<Integer> pass(List<int[]> items, List<Integer> row) {
            int[][] b = deep(bows), l = deep(last);
            List<Integer> left = new ArrayList<>(row), out = new ArrayList<>(List.of(0));
            int minutes = 0;
            while (left.size() > 1 && minutes >= 0) {
                int[] t = talk(items, left.get(0), left.get(1));
                if (t[0] < 0) {
                    minutes = -1;
                } else {
                    minutes += t[1] + 1;
                    note(t[0], left.get(0) + left.get(1) - t[0]);
                    out.add(t[0]);
                    left.remove((Integer) t[0]);
                }
            }
            bows = b;
            last = l;
            if (minutes < 0) {
                return null;
            }
            out.addAll(left);
            out.set(0, minutes + left.size());
            return out;
        }

        int through(int i) {
            if (i < -1) {
                return bad(-10);
            }
            if (fault() >= 0) {
                return no(-20);
            }
            List<Integer> out = pass(items(), queue);
            return out == null ? -1 : i >= queue.size() ? -5 : out.get(i + 1);
        }

        void orders(List<Integer> head, List<Integer> rest, List<List<Integer>> out) {
            if (rest.isEmpty()) {
                out.add(head);
            }
            for (Integer p : rest) {
                List<Integer> h = new ArrayList<>(head), r = new ArrayList<>(rest);
                h.add(p);
                r.remove(p);
                orders(h, r, out);
            }
        }

        int soonest(int i) {
            if (i < -1) {
                return bad(-10);
            }
            if (fault() >= 0 || queue.size() > 6) {
                return no(-20);
            }
            List<Integer> sorted = new ArrayList<>(queue);
            sorted.sort(null);
            List<List<Integer>> all = new ArrayList<>();
            orders(new ArrayList<>(), sorted, all);
            List<int[]> items = items();
            List<Integer> best = null;
            int fewest = 0;
            for (List<Integer> o : all) {
                List<Integer> out = pass(items, o);
                if (out != null && (best == null || out.get(0) < fewest)) {
                    best = o;
                    fewest = out.get(0);
                }
            }
            if (best == null) {
                return no(-20);
            }
            return i == -1 ? fewest : i >= best.size() ? -5 : best.get(i);
        }

        int avoid() {
            if (fault() >= 0) {
                return no(-3);
            }
            int who = -1, fewest = 10000;
            for (Integer p : queue) {
                List<Integer> row = new ArrayList<>(queue);
                row.remove(p);
                List<Integer> out = pass(items(), row);
                int minutes = out == null ? 999 : out.get(0);
                if (minutes < fewest) {
                    fewest = minutes;
                    who = p;
                }
            }
            return who;
        }

        int waits(int d, int p) {
            if (d < 0 || d > 5 || p < -1 || p >= people.size()) {
                return bad(-10);
            }
            int was = wait[d];
            wait[d] = p;
            return was;
        }

        int leg(int a, int b, int n) {
            if (a < 0 || a > 5 || b < 0 || b > 5 || a == b || n < 0 || n > 99) {
                return bad(-2);
            }
            int was = legs[a][b];
            legs[a][b] = n;
            legs[b][a] = n;
            return was;
        }

        List<Integer> bestWay;
        int bestMinutes;

        void walk(List<int[]> items, int p, List<Integer> path, int to, int minutes) {
            int at = path.get(path.size() - 1);
            if (at == to) {
                if (bestWay == null || minutes < bestMinutes) {
                    bestWay = path;
                    bestMinutes = minutes;
                }
                return;
            }
            for (int d = 0; d < 6; d++) {
                if (legs[at][d] == 0 || path.contains(d)) {
                    continue;
                }
                int cost = legs[at][d];
                if (wait[d] >= 0 && wait[d] != p) {
                    int[] t = talk(items, wait[d], p);
                    if (t[0] < 0) {
                        continue;
                    }
                    cost += t[1] + (t[0] == p ? 0 : 1);
                }
                List<Integer> next = new ArrayList<>(path);
                next.add(d);
                walk(items, p, next, to, minutes + cost);
            }
        }

        int way(int p, int from, int to, int i) {
            if (!is(p) || from < 0 || from > 5 || to < 0 || to > 5 || i < -1) {
                return bad(-10);
            }
            if (fault() >= 0) {
                return no(-20);
            }
            bestWay = null;
            walk(items(), p, List.of(from), to, 0);
            return bestWay == null ? -1 : i == -1 ? bestMinutes : i >= bestWay.size() ? -5 : bestWay.get(i);
        }

        int tell(int a, int b, int went) {
            if (!two(a, b) || went != a && went != b) {
                return bad(-2);
            }
            if (events.size() == 16) {
                fulls++;
                return -4;
            }
            events.add(new int[] {a, b, went});
            return events.size() - 1;
        }

        int forget() {
            int was = events.size();
            events.clear();
            return was;
        }

        int judge(List<int[]> items) {
            int[][] b = deep(bows), l = deep(last);
            int wrongOne = -1;
            for (int e = 0; e < events.size() && wrongOne < 0; e++) {
                int[] v = events.get(e);
                if (talk(items, v[0], v[1])[0] != v[2]) {
                    wrongOne = e;
                }
                note(v[2], v[0] + v[1] - v[2]);
            }
            bows = b;
            last = l;
            return wrongOne;
        }

        int judge() {
            return fault() >= 0 ? no(-3) : judge(items());
        }

        int learns() {
            int bits = 0;
            for (int c = 0; c < 10; c++) {
                if (judge(List.of(new int[] {1, 0, c, 1})) < 0) {
                    bits += 1 << c;
                }
            }
            return bits;
        }

        int struck(int by, int to) {
            boolean all = by == -1 && to == -1;
            if (!all && !two(by, to)) {
                return bad(-10);
            }
            int[][] b = deep(bows);
            for (int i = 0; i < 8; i++) {
                for (int j = i + 1; j < 8; j++) {
                    while (b[i][j] > 0 && b[j][i] > 0) {
                        b[i][j]--;
                        b[j][i]--;
                    }
                }
            }
            for (int i = 0; i < 8; i++) {
                for (int j = i + 1; j < 8; j++) {
                    for (int k = j + 1; k < 8; k++) {
                        while (b[i][j] > 0 && b[j][k] > 0 && b[k][i] > 0) {
                            b[i][j]--;
                            b[j][k]--;
                            b[k][i]--;
                        }
                        while (b[i][k] > 0 && b[k][j] > 0 && b[j][i] > 0) {
                            b[i][k]--;
                            b[k][j]--;
                            b[j][i]--;
                        }
                    }
                }
            }
            int sum = 0;
            for (int[] row : b) {
                sum += Arrays.stream(row).sum();
            }
            return all ? sum : b[by][to];
        }

        int have(int p, int q, boolean first) {
            if (!two(p, q)) {
                return bad(-2);
            }
            if (fault() >= 0) {
                return no(-3);
            }
            int[] his = people.get(p);
            int least = -1;
            for (int load = 9; load >= 0; load--) {
                people.set(p, new int[] {his[0], his[1], load, his[3]});
                if (talk(items(), first ? p : q, first ? q : p)[0] == p) {
                    least = load;
                }
            }
            people.set(p, his);
            return least;
        }

        int firsts(int p) {
            if (!is(p)) {
                return bad(-2);
            }
            if (fault() >= 0 || people.size() == 1) {
                return no(-3);
            }
            int won = 0, all = 0;
            for (int q = 0; q < people.size(); q++) {
                if (q != p) {
                    all += 2;
                    won += talk(items(), p, q)[0] == p ? 1 : 0;
                    won += talk(items(), q, p)[0] == p ? 1 : 0;
                }
            }
            int g = java.math.BigInteger.valueOf(won).gcd(java.math.BigInteger.valueOf(all)).intValue();
            above = won / g;
            below = all / g;
            return 1;
        }

        int strikes() {
            if (fault() >= 0) {
                return no(-3);
            }
            List<int[]> items = items();
            for (int size = 0; size <= items.size(); size++) {
                for (int set = 0; set < 1 << items.size(); set++) {
                    if (Integer.bitCount(set) == size && settles(items, set)) {
                        return set;
                    }
                }
            }
            return -1;
        }

        boolean settles(List<int[]> items, int set) {
            List<int[]> left = new ArrayList<>();
            for (int i = 0; i < items.size(); i++) {
                if ((set >> i & 1) == 0) {
                    left.add(items.get(i));
                }
            }
            for (int a = 0; a < people.size(); a++) {
                for (int b = 0; b < people.size(); b++) {
                    if (a != b && talk(left, a, b)[0] < 0) {
                        return false;
                    }
                }
            }
            return true;
        }

        int part(int what) {
            return what == 0 ? above : what == 1 ? below : bad(-2);
        }

        int image(int i) {
            if (i != 0 && i != 1) {
                return bad(-2);
            }
            images[i] = new State();
            images[i].take(this);
            return 1;
        }

        int from(int i) {
            if (i != 0 && i != 1) {
                return bad(-2);
            }
            if (images[i] == null) {
                return no(-3);
            }
            take(images[i]);
            return 1;
        }

        int count(int what) {
            return what < 0 || what > 3 ? bad(-2)
                    : new int[] {people.size(), text.size(), queue.size(), events.size()}[what];
        }

        long digest() {
            List<Integer> v = new ArrayList<>(List.of(people.size(), text.size(), queue.size(), events.size()));
            for (int[] p : people) {
                for (int k : p) {
                    v.add(k);
                }
            }
            for (int a = 0; a < 8; a++) {
                for (int b = 0; b < 8; b++) {
                    v.add(bows[a][b]);
                    if (a < b) {
                        v.add(last[a][b]);
                    }
                }
            }
            v.addAll(text);
            v.addAll(queue);
            for (int w : wait) {
                v.add(w);
            }
            for (int a = 0; a < 6; a++) {
                for (int b = a + 1; b < 6; b++) {
                    v.add(legs[a][b]);
                }
            }
            for (int[] e : events) {
                v.add(e[0]);
                v.add(e[1]);
                v.add(e[2]);
            }
            v.add(above);
            v.add(below);
            long h = 647;
            for (int k : v) {
                h = 31 * h + k;
            }
            return h;
        }
    }
}
