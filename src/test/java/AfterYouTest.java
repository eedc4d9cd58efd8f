import java.util.Arrays;

/** One test or more for each promise: ordinary inputs, the edges that the document names, wrong inputs. */
public final class AfterYouTest {
    private static final int BIG = Integer.MAX_VALUE, LOW = Integer.MIN_VALUE;
    private static int wrong = 0;
    private static int asked = 0;

    private static void due(String what, long got, long want) {
        asked++;
        if (got != want) {
            wrong++;
            System.out.println(what + " answered " + got + ", due is " + want);
        }
    }

    /** Types a text, eight bytes a call at most. */
    private static AfterYou write(AfterYou x, String text) {
        for (int i = 0; i < text.length(); i += 8) {
            int n = Math.min(8, text.length() - i);
            long v = 0;
            for (int k = 0; k < n; k++) {
                v = v << 8 | text.charAt(i + k);
            }
            x.type(v, n);
        }
        return x;
    }

    private static AfterYou rewrite(AfterYou x, String text) {
        x.clear();
        return write(x, text);
    }

    private static AfterYou plain(int... ages) {
        AfterYou x = new AfterYou();
        for (int age : ages) {
            x.person(0, age, 0, 0);
        }
        return x;
    }

    private static void refusals(String what, AfterYou x, int bads, int noes, int fulls) {
        due(what + ": BAD", x.status(0), bads);
        due(what + ": NO", x.status(1), noes);
        due(what + ": FULL", x.status(2), fulls);
    }

    public static void main(String[] args) {
        newObject();
        person();
        counts();
        owe();
        type();
        fault();
        item();
        talk();
        courtesies();
        meet();
        come();
        through();
        soonest();
        avoid();
        waitsAndLegs();
        way();
        tell();
        judge();
        learns();
        struck();
        have();
        firsts();
        strikes();
        images();
        status();
        digest();
        everyNumberAnswers();
        System.out.println(wrong == 0 ? asked + " answers are as due" : wrong + " answers are not as due");
        if (wrong != 0) {
            System.exit(1);
        }
    }

    private static void newObject() {
        AfterYou x = new AfterYou();
        for (int what = 0; what < 4; what++) {
            due("new count " + what, x.count(what), 0);
        }
        due("new fraction above", x.part(0), 0);
        due("new fraction below", x.part(1), 1);
        due("new fault", x.fault(), -1);
        refusals("new", x, 0, 0, 0);
        due("new through", x.through(-1), 0);
        due("new struck", x.struck(-1, -1), 0);
        due("new from", x.from(0), -3);
        for (int door = 0; door < 6; door++) {
            due("new waits", x.waits(door, -1), -1);
            due("new leg", x.leg(door, (door + 1) % 6, 0), 0);
        }
    }

    private static void person() {
        AfterYou x = new AfterYou();
        int[][] bad = {{-1, 0, 0, 0}, {6, 0, 0, 0}, {0, -1, 0, 0}, {0, 100, 0, 0}, {0, 0, -1, 0}, {0, 0, 10, 0},
            {0, 0, 0, -1}, {0, 0, 0, 10}, {BIG, 0, 0, 0}, {0, LOW, 0, 0}};
        for (int[] p : bad) {
            due("bad person " + Arrays.toString(p), x.person(p[0], p[1], p[2], p[3]), -2);
        }
        due("nobody came", x.count(0), 0);
        for (int i = 0; i < 8; i++) {
            due("person " + i, x.person(i % 6, 99, 9, 9), i);
        }
        due("a ninth", x.person(0, 0, 0, 0), -4);
        due("a ninth who is bad", x.person(6, 0, 0, 0), -2);
        due("eight", x.count(0), 8);
        refusals("person", x, 11, 0, 1);
    }

    private static void counts() {
        AfterYou x = new AfterYou();
        int[][] want = {{40, 5, 7}, {0, 5, 7}, {40, 8, 7}, {40, 8, 9}, {40, 5, 14}, {60, 5, 14}};
        for (int kind = 0; kind < 6; kind++) {
            x.person(kind, 40, 5, 7);
            for (int what = 0; what < 3; what++) {
                due("kind " + kind + " counts " + what, x.counts(kind, what), want[kind][what]);
            }
        }
        due("counts of nobody", x.counts(6, 0), -2);
        due("counts of below", x.counts(-1, 0), -2);
        due("counts what below", x.counts(0, -1), -2);
        due("counts what above", x.counts(0, 3), -2);
        refusals("counts", x, 4, 0, 0);
    }

    private static void owe() {
        AfterYou x = plain(1, 2);
        due("owes at first", x.owes(0, 1), 0);
        due("owe", x.owe(0, 1, 99), 0);
        due("owes now", x.owes(0, 1), 99);
        due("the other way", x.owes(1, 0), 0);
        due("owe again", x.owe(0, 1, 0), 99);
        due("owe too many", x.owe(0, 1, 100), -2);
        due("owe too few", x.owe(0, 1, -1), -2);
        due("owe alike", x.owe(1, 1, 1), -2);
        due("owe to nobody", x.owe(0, 2, 1), -2);
        due("owe by nobody", x.owe(-1, 0, 1), -2);
        due("owes alike", x.owes(0, 0), -2);
        due("owes to nobody", x.owes(0, 2), -2);
        due("owes by nobody", x.owes(8, 0), -2);
        due("nothing changed", x.owes(0, 1), 0);
        refusals("owe", x, 8, 0, 0);
    }

    private static void type() {
        AfterYou x = new AfterYou();
        due("n 0", x.type(1, 0), -2);
        due("n 9", x.type(1, 9), -2);
        due("n low", x.type(1, LOW), -2);
        for (int i = 1; i <= 19; i++) {
            due("eight more", x.type(0x2020202020202020L, 8), 8 * i);
        }
        due("seven", x.type(-1L, 7), 159);
        due("two too many", x.type(0, 2), -4);
        due("too many, and bad", x.type(0, 9), -2);
        due("one", x.type(0, 1), 160);
        due("none fits", x.type(0, 1), -4);
        due("160 bytes", x.count(1), 160);
        refusals("type", x, 4, 0, 2);
        due("clear", x.clear(), 160);
        due("clear again", x.clear(), 0);
        due("empty", x.count(1), 0);
        due("empty has no fault", x.fault(), -1);
        // The highest of the lowest bytes comes first.
        x.type(0x4141_6f6c646572L, 5);
        due("older, open", x.fault(), 5);
        x.type(';', 1);
        due("older;", x.fault(), -1);
    }

    private static void fault() {
        String[] fine = {"", "   ", "older;", " older ; ", "from 9 again second 99;", "from1older1;", "older 07;",
            "from 09 older;", "turn 5;first 1;second;", "older;younger;laden;unladen;higher;lower;owed;turn;first;"};
        for (String text : fine) {
            due("fault of '" + text + "'", write(new AfterYou(), text).fault(), -1);
        }
        Object[][] faulty = {{";", 0}, {"older", 5}, {"older ", 6}, {"older 5", 7}, {"olde", 0}, {"olderr;", 0}, {"olderz;", 0}, {"aolder;", 0}, {"older`", 5}, {"older{", 5}, {"older/", 5}, {"older:", 5},
            {"older 100;", 6}, {"older 1 2;", 8}, {"older 0;", 6}, {"older 00;", 6}, {"from 0 older;", 5},
            {"from 10 older;", 5}, {"from", 4}, {"from 1", 6}, {"from 1 ", 7}, {"from older;", 5}, {"again;", 5},
            {"again again older;", 6}, {"again from 1 older;", 6}, {"from 1 from 2 older;", 7}, {"5;", 0},
            {"older younger;", 6}, {"older again;", 6}, {"Older;", 0}, {"older,", 5}, {"older;;", 6},
            {"older\t;", 5}, {"older;x", 6}, {"older 12a;", 8}, {"older 1000", 6}, {"older" + (char) 200 + ";", 5},
            {"first;first;first;first;first;first;first;first;first;  first;", 56},
            {"first;first;first;first;first;first;first;first;first;x", 54},
            {"first;first;first;first;first;first;first;first;first;;", 54}};
        for (Object[] row : faulty) {
            due("fault of '" + row[0] + "'", write(new AfterYou(), (String) row[0]).fault(), (Integer) row[1]);
        }
        AfterYou x = plain(1, 2);
        write(x, "older");
        due("item", x.item(0, 0), -3);
        due("talk", x.talk(0, 1, 0), -3);
        due("meet", x.meet(0, 1), -3);
        due("through", x.through(-1), -20);
        due("soonest", x.soonest(-1), -20);
        due("avoid", x.avoid(), -3);
        due("way", x.way(0, 0, 0, 0), -20);
        due("judge", x.judge(), -3);
        due("have", x.have(0, 1, true), -3);
        due("firsts", x.firsts(0), -3);
        due("strikes", x.strikes(), -3);
        due("learns goes without a book", x.learns(), 1023);
        refusals("fault", x, 0, 11, 0);
    }

    private static void item() {
        AfterYou x = write(new AfterYou(), "older;from 3 again owed 12;");
        int[][] want = {{1, 0, 0, 1}, {3, 1, 6, 12}};
        for (int i = 0; i < 2; i++) {
            for (int what = 0; what < 4; what++) {
                due("item " + i + " " + what, x.item(i, what), want[i][what]);
            }
        }
        due("no third item", x.item(2, 0), -2);
        due("item below", x.item(-1, 0), -2);
        due("item above", x.item(9, 0), -2);
        due("what below", x.item(0, -1), -2);
        due("what above", x.item(0, 4), -2);
        write(x, "x");
        due("bad ahead of no", x.item(9, 0), -2);
        due("no ahead of none such", x.item(8, 0), -3);
        refusals("item", x, 6, 1, 0);
        String[] words = {"older", "younger", "laden", "unladen", "higher", "lower", "owed", "turn", "first", "second"};
        for (int c = 0; c < 10; c++) {
            due("courtesy " + words[c], write(new AfterYou(), words[c] + ";").item(0, 2), c);
        }
        due("again anew", rewrite(x, "older;").item(0, 1), 0);
    }

    private static void talk() {
        AfterYou x = plain(30, 50);
        due("no book: nobody", x.talk(0, 1, 0), -1);
        due("no book: rounds", x.talk(0, 1, 1), 9);
        due("no book: item", x.talk(0, 1, 2), -1);
        rewrite(x, "older 21;from 2 first;");
        due("second round: who", x.talk(0, 1, 0), 1);
        due("second round: who, the other way", x.talk(1, 0, 0), 0);
        due("second round", x.talk(0, 1, 1), 2);
        due("second round: item", x.talk(0, 1, 2), 1);
        rewrite(x, "from 9 older 20;");
        due("ninth round", x.talk(0, 1, 1), 9);
        due("ninth round: who", x.talk(0, 1, 0), 1);
        due("ninth round: item", x.talk(0, 1, 2), 0);
        rewrite(x, "again older;first;");
        due("again, for ever", x.talk(0, 1, 0), -1);
        rewrite(x, "again older 30;second;");
        due("again names nobody", x.talk(0, 1, 0), 1);
        rewrite(x, "from 3 second;from 2 again first;");
        due("the first that names counts", x.talk(0, 1, 1), 3);
        due("third round, second to come", x.talk(0, 1, 0), 1);
        due("alike", x.talk(0, 0, 0), -2);
        due("nobody", x.talk(0, 2, 0), -2);
        due("nobody first", x.talk(-1, 0, 0), -2);
        due("what below", x.talk(0, 1, -1), -2);
        due("what above", x.talk(0, 1, 3), -2);
        rewrite(x, ";");
        due("bad ahead of no", x.talk(0, 1, 3), -2);
        due("no", x.talk(0, 1, 2), -3);
        refusals("talk", x, 6, 1, 0);
    }

    private static void courtesies() {
        AfterYou x = new AfterYou();
        x.person(0, 30, 4, 5);
        x.person(0, 33, 2, 8);
        String[] words = {"older 3", "younger 3", "laden 2", "unladen 2", "higher 3", "lower 3"};
        int[] goes = {1, 0, 0, 1, 1, 0};
        for (int i = 0; i < 6; i++) {
            rewrite(x, words[i] + ";");
            due(words[i], x.talk(0, 1, 0), goes[i]);
            due(words[i] + ", turned", x.talk(1, 0, 0), goes[i]);
            int n = words[i].charAt(words[i].length() - 1) - '0' + 1;
            rewrite(x, words[i].substring(0, words[i].length() - 1) + n + ";");
            due(words[i] + " not by one more", x.talk(0, 1, 0), -1);
        }
        rewrite(x, "owed 3;");
        x.owe(0, 1, 5);
        x.owe(1, 0, 3);
        due("owed by too little", x.talk(0, 1, 0), -1);
        x.owe(1, 0, 2);
        due("owed", x.talk(0, 1, 0), 1);
        rewrite(x, "first 9;");
        due("first", x.talk(1, 0, 0), 1);
        rewrite(x, "second 9;");
        due("second", x.talk(1, 0, 0), 0);
        rewrite(x, "turn 9;");
        due("turn, never met", x.talk(0, 1, 0), -1);
        rewrite(x, "first;");
        x.meet(1, 0);
        rewrite(x, "turn 9;");
        due("turn", x.talk(0, 1, 0), 0);
        due("turn, turned", x.talk(1, 0, 0), 0);
    }

    private static void meet() {
        AfterYou x = plain(30, 50);
        due("nobody goes", x.meet(0, 1), -1);
        due("nothing owed", x.owes(0, 1) + x.owes(1, 0), 0);
        rewrite(x, "turn;older;");
        due("older goes", x.meet(0, 1), 1);
        due("he owes", x.owes(1, 0), 1);
        due("the other one does not", x.owes(0, 1), 0);
        due("then the other one", x.meet(0, 1), 0);
        due("both owe", x.owes(0, 1), 1);
        rewrite(x, "older;");
        x.owe(1, 0, 98);
        x.meet(0, 1);
        due("99", x.owes(1, 0), 99);
        x.meet(1, 0);
        due("99 at most", x.owes(1, 0), 99);
        due("alike", x.meet(1, 1), -2);
        due("nobody", x.meet(1, 2), -2);
        write(x, "x");
        due("bad ahead of no", x.meet(1, 2), -2);
        due("no", x.meet(0, 1), -3);
        refusals("meet", x, 3, 1, 0);
    }

    private static void come() {
        AfterYou x = plain(1, 2, 3, 4, 5, 6, 7, 8);
        due("not there", x.come(8), -2);
        due("below", x.come(-1), -2);
        for (int i = 0; i < 8; i++) {
            due("comes", x.come(7 - i), i + 1);
            due("is in it", x.come(7 - i), -2);
        }
        due("in the queue", x.count(2), 8);
        due("disperse", x.disperse(), 8);
        due("disperse again", x.disperse(), 0);
        due("comes anew", x.come(3), 1);
        refusals("come", x, 10, 0, 0);
    }

    private static void through() {
        AfterYou x = plain(30, 50, 40);
        write(x, "from 2 older;");
        x.come(1);
        due("one alone", x.through(-1), 1);
        due("one alone goes", x.through(0), 1);
        x.come(0);
        x.come(2);
        due("two talks of two rounds, three go", x.through(-1), 7);
        due("first", x.through(0), 1);
        due("second", x.through(1), 2);
        due("third", x.through(2), 0);
        due("not so many", x.through(3), -5);
        due("not so many by far", x.through(BIG), -5);
        due("bad", x.through(-2), -10);
        due("bad by far", x.through(LOW), -10);
        due("nothing stays", x.struck(-1, -1), 0);
        rewrite(x, "turn;");
        due("no two met", x.through(-1), -1);
        rewrite(x, "older 11;");
        due("first two go, then shut", x.through(-1), -1);
        due("shut for each", x.through(0), -1);
        due("shut beyond, too", x.through(3), -1);
        rewrite(x, "first;");
        due("who let go came first", x.through(0) * 100 + x.through(1) * 10 + x.through(2), 102);
        rewrite(x, "second;");
        due("he waits to the end", x.through(0) * 100 + x.through(1) * 10 + x.through(2), 21);
        write(x, "x");
        due("bad ahead of no", x.through(-2), -10);
        due("no", x.through(7), -20);
        refusals("through", x, 3, 1, 0);
    }

    private static void soonest() {
        AfterYou x = plain(10, 15, 30, 31, 90, 91, 5);
        write(x, "older 15;from 5 first;");
        x.come(2);
        x.come(1);
        x.come(0);
        due("as they come", x.through(-1), 9);
        due("soonest", x.soonest(-1), 9);
        due("of like ones the first by numbers", x.soonest(0) * 100 + x.soonest(1) * 10 + x.soonest(2), 12);
        x.come(3);
        due("four: one slow talk, two fast ones", x.soonest(-1), 11);
        due("not so many", x.soonest(4), -5);
        due("bad", x.soonest(-2), -10);
        x.come(4);
        x.come(5);
        due("six: minutes", x.soonest(-1) > 0 ? 1 : 0, 1);
        rewrite(x, "older 40;");
        due("all shut", x.soonest(-1), -20);
        due("all shut, not so many", x.soonest(9), -20);
        rewrite(x, "older;");
        x.come(6);
        due("more than six", x.soonest(-1), -20);
        due("more than six, bad", x.soonest(-2), -10);
        refusals("soonest", x, 2, 3, 0);
        // 0 and 1 never settle, so 2 has to come between them.
        AfterYou z = plain(10, 10, 5);
        write(z, "older;");
        z.come(0);
        z.come(1);
        z.come(2);
        due("shut as they come", z.through(-1), -1);
        due("2 between", z.soonest(-1), 5);
        due("0 first", z.soonest(0), 0);
        due("2 then", z.soonest(1), 2);
        due("1 last", z.soonest(2), 1);
        // 0 and 2 never settle, and who is left of 0 and 1 is 0: so 1 and 2 come ahead of him.
        AfterYou y = plain(10, 20, 30);
        write(y, "again older 15;older;");
        y.come(0);
        y.come(1);
        y.come(2);
        due("0 last", y.soonest(-1), 5);
        due("0 last", y.soonest(0) * 100 + y.soonest(1) * 10 + y.soonest(2), 120);
    }

    private static void avoid() {
        AfterYou x = plain(10, 20, 30, 41);
        due("nobody", x.avoid(), -1);
        write(x, "older 11;from 3 older;");
        x.come(3);
        due("alone", x.avoid(), 3);
        x.come(1);
        x.come(0);
        x.come(2);
        due("without 1 it is soonest", x.avoid(), 1);
        rewrite(x, "older 99;");
        due("shut without each: the first", x.avoid(), 3);
        x.disperse();
        x.come(1);
        x.come(2);
        due("one is left: the first", x.avoid(), 1);
        write(x, "x");
        due("no", x.avoid(), -3);
        x.disperse();
        due("no ahead of none", x.avoid(), -3);
        refusals("avoid", x, 0, 2, 0);
    }

    private static void waitsAndLegs() {
        AfterYou x = plain(10, 20);
        due("nobody did", x.waits(5, 1), -1);
        due("he did", x.waits(5, -1), 1);
        due("nobody again", x.waits(5, 0), -1);
        due("one waits at two doors", x.waits(4, 0), -1);
        due("door above", x.waits(6, 0), -10);
        due("door below", x.waits(-1, 0), -10);
        due("person above", x.waits(0, 2), -10);
        due("person below", x.waits(0, -2), -10);
        due("still there", x.waits(5, 0), 0);
        due("a leg", x.leg(0, 5, 99), 0);
        due("both ways", x.leg(5, 0, 1), 99);
        due("none more", x.leg(0, 5, 0), 1);
        due("alike", x.leg(2, 2, 1), -2);
        due("door above", x.leg(0, 6, 1), -2);
        due("door below", x.leg(-1, 1, 1), -2);
        due("too long", x.leg(0, 1, 100), -2);
        due("too short", x.leg(0, 1, -1), -2);
        refusals("doors", x, 9, 0, 0);
    }

    private static void way() {
        AfterYou x = plain(10, 20, 30);
        write(x, "from 2 older 5;");
        due("no leg", x.way(1, 0, 1, -1), -1);
        due("no leg, a door", x.way(1, 0, 1, 9), -1);
        due("there already", x.way(1, 4, 4, -1), 0);
        due("there already, first door", x.way(1, 4, 4, 0), 4);
        due("there already, no second", x.way(1, 4, 4, 1), -5);
        x.leg(0, 1, 3);
        x.leg(1, 2, 3);
        x.leg(0, 2, 6);
        due("alike: minutes", x.way(1, 0, 2, -1), 6);
        due("alike: the first by doors", x.way(1, 0, 2, 1), 1);
        due("alike: the end", x.way(1, 0, 2, 2), 2);
        due("not so many", x.way(1, 0, 2, 3), -5);
        due("backwards", x.way(1, 2, 0, 1), 0);
        x.waits(1, 1);
        due("himself is nobody", x.way(1, 0, 1, -1), 3);
        x.waits(1, 0);
        due("rounds", x.way(1, 0, 1, -1), 5);
        x.waits(1, 2);
        due("rounds, and lets go", x.way(1, 0, 1, -1), 6);
        due("nobody is met at the first", x.way(1, 1, 0, -1), 3);
        due("round about", x.way(1, 0, 2, 1), 2);
        rewrite(x, "second;");
        due("who waits came first", x.way(1, 0, 1, -1), 4);
        rewrite(x, "older 15;");
        x.leg(0, 2, 99);
        due("never: not by there", x.way(1, 0, 2, -1), 99);
        due("never: not there", x.way(1, 0, 1, -1), -1);
        due("person", x.way(3, 0, 1, -1), -10);
        due("from", x.way(0, 6, 1, -1), -10);
        due("to", x.way(0, 0, -1, -1), -10);
        due("i", x.way(0, 0, 1, -2), -10);
        write(x, "x");
        due("bad ahead of no", x.way(0, 0, 1, -2), -10);
        due("no", x.way(0, 0, 1, 8), -20);
        due("nothing stays", x.struck(-1, -1), 0);
        refusals("way", x, 5, 1, 0);
        // A waiter at two doors is met at each as at first.
        AfterYou y = plain(10, 10);
        write(y, "turn;from 3 first;");
        y.leg(0, 1, 1);
        y.leg(1, 2, 1);
        y.waits(1, 1);
        y.waits(2, 1);
        due("each meeting from how it is", y.way(0, 0, 2, -1), 2 + 4 + 4);
    }

    private static void tell() {
        AfterYou x = plain(10, 20, 30);
        due("alike", x.tell(0, 0, 0), -2);
        due("went neither", x.tell(0, 1, 2), -2);
        due("nobody went", x.tell(0, 1, -1), -2);
        due("no such one", x.tell(0, 3, 0), -2);
        due("no such one", x.tell(-1, 0, 0), -2);
        for (int i = 0; i < 16; i++) {
            due("event", x.tell(i % 3, (i + 1) % 3, i % 3), i);
        }
        due("a seventeenth", x.tell(0, 1, 0), -4);
        due("a bad seventeenth", x.tell(0, 1, 2), -2);
        due("sixteen", x.count(3), 16);
        due("forget", x.forget(), 16);
        due("forget again", x.forget(), 0);
        due("anew", x.tell(0, 1, 1), 0);
        refusals("tell", x, 6, 0, 1);
    }

    private static void judge() {
        AfterYou x = plain(10, 20);
        due("no events", x.judge(), -1);
        x.tell(0, 1, 1);
        due("never, too", x.judge(), 0);
        write(x, "turn;older;");
        due("as due", x.judge(), -1);
        x.tell(0, 1, 0);
        x.tell(0, 1, 1);
        due("turns", x.judge(), -1);
        x.tell(0, 1, 1);
        due("out of turn", x.judge(), 3);
        x.forget();
        x.tell(0, 1, 0);
        x.tell(0, 1, 0);
        due("the first", x.judge(), 0);
        due("nothing stays", x.struck(-1, -1), 0);
        rewrite(x, "owed 2;older;");
        x.forget();
        x.tell(0, 1, 1);
        x.tell(0, 1, 1);
        x.tell(0, 1, 0);
        due("bows count on the way", x.judge(), -1);
        write(x, "x");
        due("no", x.judge(), -3);
        refusals("judge", x, 0, 1, 0);
    }

    private static void learns() {
        AfterYou x = new AfterYou();
        x.person(0, 10, 3, 4);
        x.person(0, 20, 3, 2);
        due("all", x.learns(), 1023);
        x.tell(0, 1, 1);
        due("older, lower, second", x.learns(), 1 | 1 << 5 | 1 << 9);
        x.tell(1, 0, 0);
        due("second", x.learns(), 1 << 9);
        x.forget();
        x.owe(0, 1, 5);
        x.tell(0, 1, 1);
        due("owed, too", x.learns(), 1 | 1 << 5 | 1 << 6 | 1 << 9);
        for (int i = 0; i < 5; i++) {
            x.tell(0, 1, 1);
        }
        due("no longer owed", x.learns(), 1 | 1 << 5 | 1 << 9);
        x.forget();
        write(x, "first;");
        x.meet(0, 1);
        x.tell(0, 1, 1);
        x.tell(1, 0, 0);
        x.tell(0, 1, 1);
        due("turn", x.learns(), 1 << 7 | 1 << 9);
        write(x, "x");
        due("a fault is nothing to it", x.learns(), 1 << 7 | 1 << 9);
    }

    private static void struck() {
        AfterYou x = plain(1, 2, 3, 4);
        x.owe(0, 1, 7);
        x.owe(1, 0, 3);
        due("two", x.struck(0, 1), 4);
        due("two", x.struck(1, 0), 0);
        x.owe(1, 2, 5);
        x.owe(2, 0, 2);
        due("three", x.struck(0, 1), 2);
        due("three", x.struck(1, 2), 3);
        due("three", x.struck(2, 0), 0);
        due("together", x.struck(-1, -1), 5);
        due("nothing changed", x.owes(0, 1), 7);
        due("alike", x.struck(1, 1), -10);
        due("no such one", x.struck(0, 4), -10);
        due("half none", x.struck(-1, 0), -10);
        due("half none", x.struck(0, -1), -10);
        refusals("struck", x, 4, 0, 0);
        // 0, 1, 2 backwards comes ahead of 0, 2, 3: both need 0 to 2.
        AfterYou y = plain(1, 2, 3, 4);
        y.owe(0, 2, 1);
        y.owe(2, 1, 1);
        y.owe(1, 0, 1);
        y.owe(2, 3, 1);
        y.owe(3, 0, 1);
        due("ring by ring", y.struck(2, 1), 0);
        due("ring by ring", y.struck(2, 3), 1);
        due("ring by ring", y.struck(-1, -1), 2);
    }

    private static void have() {
        AfterYou x = new AfterYou();
        x.person(2, 10, 9, 0);
        x.person(0, 20, 6, 0);
        write(x, "laden;");
        due("limps: 3 more", x.have(0, 1, true), 4);
        due("limps: 3 more", x.have(0, 1, false), 4);
        due("his load is as told", x.counts(0, 1), 12);
        due("none", x.have(1, 0, true), -1);
        rewrite(x, "laden;second;");
        due("as first", x.have(0, 1, true), 4);
        due("as second", x.have(0, 1, false), 3);
        rewrite(x, "unladen 4;");
        due("none is needed", x.have(1, 0, true), 0);
        rewrite(x, "laden 2;");
        due("his load counts to nothing", x.have(1, 0, true), -1);
        x.person(0, 1, 7, 0);
        due("nine", x.have(1, 2, true), 9);
        due("alike", x.have(0, 0, true), -2);
        due("nobody", x.have(0, 3, true), -2);
        due("nobody", x.have(-1, 0, false), -2);
        write(x, "x");
        due("bad ahead of no", x.have(0, 0, true), -2);
        due("no", x.have(0, 1, true), -3);
        refusals("have", x, 4, 1, 0);
    }

    private static void firsts() {
        AfterYou x = plain(10);
        due("nobody else", x.firsts(0), -3);
        due("nobody", x.firsts(1), -2);
        x.person(0, 20, 0, 0);
        x.person(0, 20, 0, 0);
        x.person(0, 30, 0, 0);
        due("no book", x.firsts(0), 1);
        due("none of six", x.part(0), 0);
        due("lowest terms", x.part(1), 1);
        write(x, "older;first;");
        due("firsts", x.firsts(1), 1);
        due("three of six", x.part(0), 1);
        due("three of six", x.part(1), 2);
        due("all", x.firsts(3), 1);
        due("all", x.part(0), 1);
        due("all", x.part(1), 1);
        rewrite(x, "older;");
        due("two of six", x.firsts(2), 1);
        due("two of six", x.part(0), 1);
        due("two of six", x.part(1), 3);
        due("refused", x.firsts(4), -2);
        write(x, "x");
        due("no", x.firsts(0), -3);
        due("bad ahead of no", x.firsts(-1), -2);
        due("as it was", x.part(1), 3);
        due("part below", x.part(-1), -2);
        due("part above", x.part(2), -2);
        refusals("firsts", x, 5, 2, 0);
    }

    private static void strikes() {
        AfterYou x = plain(10);
        write(x, "again first;");
        due("one alone", x.strikes(), 0);
        x.person(0, 20, 0, 0);
        due("without it nobody goes", x.strikes(), -1);
        rewrite(x, "again first;older;");
        due("the first", x.strikes(), 1);
        rewrite(x, "again older;again younger;from 4 again turn;second;");
        due("two", x.strikes(), 3);
        rewrite(x, "from 2 again older;second;");
        due("none is needed", x.strikes(), 0);
        x.person(0, 20, 0, 0);
        rewrite(x, "again older;lower;again younger;laden;first;");
        due("both", x.strikes(), 5);
        rewrite(x, "older;");
        due("1 and 2 are alike", x.strikes(), -1);
        rewrite(x, "from 2 again first;from 2 second;again first;second;");
        due("of like ones the least bits", x.strikes(), 1);
        rewrite(x, "from 2 again first;from 2 again first;from 2 second;again first;second;");
        due("the fewest, not the least bits", x.strikes(), 8);
        write(x, "x");
        due("no", x.strikes(), -3);
        refusals("strikes", x, 0, 1, 0);
    }

    private static void images() {
        AfterYou x = plain(10, 20, 30);
        write(x, "older;");
        x.come(2);
        x.meet(0, 1);
        x.waits(3, 1);
        x.leg(0, 3, 7);
        x.tell(0, 1, 1);
        long then = x.digest();
        due("none kept", x.from(0), -3);
        due("image", x.image(0), 1);
        x.person(0, 1, 1, 1);
        rewrite(x, "turn;;");
        x.come(1);
        x.owe(0, 1, 50);
        x.waits(3, 2);
        x.leg(0, 3, 0);
        x.tell(0, 1, 0);
        long later = x.digest();
        due("other image", x.image(1), 1);
        due("back", x.from(0), 1);
        due("as it was", x.digest(), then);
        due("the book, too", x.fault(), -1);
        due("the book's items", x.item(0, 2), 0);
        x.firsts(2);
        due("onward", x.from(1), 1);
        due("the fraction stays", x.part(0), 1);
        due("fault", x.fault(), 5);
        due("bad", x.image(2), -2);
        due("bad", x.image(-1), -2);
        due("bad", x.from(2), -2);
        due("bad", x.from(-1), -2);
        refusals("images", x, 4, 1, 0);
        due("an image is no mirror", x.from(0) + x.owes(1, 0), 2);
        due("later is another state", then == later ? 1 : 0, 0);
    }

    private static void status() {
        AfterYou x = new AfterYou();
        due("status above", x.status(3), -1);
        due("status below", x.status(-1), -1);
        due("counts as bad", x.status(0), 2);
        due("count below", x.count(-1), -2);
        due("count above", x.count(4), -2);
        due("so many", x.status(0), 4);
        x.through(9);
        x.soonest(9);
        due("not so many is no refusal", x.status(0) + x.status(1), 4);
    }

    private static void digest() {
        AfterYou x = new AfterYou();
        x.person(5, 40, 1, 4);
        x.person(1, 7, 2, 3);
        rewrite(x, "first;");
        x.meet(1, 0);
        x.owe(0, 1, 6);
        rewrite(x, "older" + (char) 233);
        x.come(1);
        x.waits(2, 0);
        x.leg(4, 1, 9);
        x.tell(1, 0, 0);
        long h = 647;
        int[] ahead = {2, 6, 1, 1, 5, 40, 1, 4, 1, 7, 2, 3};
        h = mix(h, ahead);
        for (int by = 0; by < 8; by++) {
            for (int to = 0; to < 8; to++) {
                h = mix(h, by == 0 && to == 1 ? 6 : by == 1 && to == 0 ? 1 : 0);
                if (by < to) {
                    h = mix(h, by == 0 && to == 1 ? 1 : -1);
                }
            }
        }
        h = mix(h, 'o', 'l', 'd', 'e', 'r', 233, 1, -1, -1, 0, -1, -1, -1);
        h = mix(h, 0, 0, 0, 0, 0, 0, 0, 9, 0, 0, 0, 0, 0, 0, 0);
        h = mix(h, 1, 0, 0, 0, 1);
        due("digest", x.digest(), h);
        rewrite(x, "first;");
        x.firsts(0);
        long half = x.digest();
        rewrite(x, "older" + (char) 233);
        due("with the fraction", x.digest(), h + 31 + 1);
        due("with another book", half == h ? 1 : 0, 0);
    }

    private static long mix(long before, int... values) {
        long h = before;
        for (int v : values) {
            h = 31 * h + v;
        }
        return h;
    }

    /** No number makes a call throw, on an empty object or a full one. */
    private static void everyNumberAnswers() {
        int[] odd = {LOW, -21, -3, -2, -1, 0, 1, 5, 6, 7, 8, 9, 16, 64, 160, BIG};
        AfterYou empty = new AfterYou();
        AfterYou full = plain(1, 2, 3, 4, 5, 6, 7, 8);
        write(full, "again turn;older;");
        for (int i = 0; i < 8; i++) {
            full.come(i);
        }
        int bad = 0;
        for (AfterYou x : new AfterYou[] {empty, full}) {
            for (int a : odd) {
                x.counts(a, 0);
                x.through(a);
                x.soonest(a);
                x.firsts(a);
                x.part(a);
                x.image(a);
                x.count(a);
                x.come(a);
                x.from(a);
                x.type(a, 9);
                for (int b : odd) {
                    x.counts(a, b);
                    x.owes(a, b);
                    x.item(a, b);
                    x.meet(a, b);
                    x.waits(a, b);
                    x.struck(a, b);
                    x.have(a, b, true);
                    for (int c : odd) {
                        x.owe(a, b, c);
                        x.talk(a, b, c);
                        x.leg(a, b, c);
                        x.tell(a, b, c);
                        x.person(a, b, c, BIG);
                        x.way(a, b, c, -1);
                        x.way(0, a, b, c);
                    }
                }
            }
            bad += x.status(0) > 0 ? 0 : 1;
        }
        due("odd numbers are refused", bad, 0);
    }
}
