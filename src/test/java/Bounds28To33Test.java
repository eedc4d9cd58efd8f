/** The boundary cases of promises 28 to 33: what there is. */
public final class Bounds28To33Test extends Checks {
    public static void main(String[] args) throws ReflectiveOperationException {
        runAll(Bounds28To33Test.class, 28, 33);
    }

    // ---- 28: part

    static void p28_lowestAndHighest() {
        AfterYou x = new AfterYou();
        asksOnly(x, "0: above", 0, () -> x.part(0));
        asksOnly(x, "1: below", 1, () -> x.part(1));
        bad(x, "-1", BAD, () -> x.part(-1));
        bad(x, "2", BAD, () -> x.part(2));
        bad(x, "lowest of all", BAD, () -> x.part(LOW));
        bad(x, "highest of all", BAD, () -> x.part(BIG));
    }

    // ---- 29: image

    static void p29_lowestAndHighest() {
        AfterYou x = plain(1);
        taken(x, "0", 1, () -> x.image(0));
        taken(x, "1", 1, () -> x.image(1));
        bad(x, "-1", BAD, () -> x.image(-1));
        bad(x, "2", BAD, () -> x.image(2));
        bad(x, "lowest of all", BAD, () -> x.image(LOW));
        bad(x, "highest of all", BAD, () -> x.image(BIG));
    }

    static void p29_ofANewObject() {
        AfterYou x = new AfterYou();
        long before = x.digest();
        x.image(0);
        write(x, "first;");
        x.person(0, 1, 1, 1);
        taken(x, "back to nothing", 1, () -> x.from(0));
        due("nothing", x.digest(), before);
    }

    static void p29_aRefusedOneKeepsNothing() {
        AfterYou x = plain(1);
        x.image(2);
        x.image(-1);
        no(x, "from 0", NO, () -> x.from(0));
        no(x, "from 1", NO, () -> x.from(1));
    }

    static void p29_aRefusedOneLeavesThoseThatAreKept() {
        AfterYou x = plain(1);
        x.image(0);
        x.person(0, 2, 0, 0);
        x.image(1);
        x.person(0, 3, 0, 0);
        x.image(2);
        x.image(-1);
        x.from(1);
        due("1", x.count(0), 2);
        x.from(0);
        due("0", x.count(0), 1);
    }

    static void p29_keptAnew() {
        AfterYou x = plain(1);
        x.image(0);
        x.person(0, 2, 0, 0);
        taken(x, "over the old one", 1, () -> x.image(0));
        x.person(0, 3, 0, 0);
        x.from(0);
        due("the new one", x.count(0), 2);
    }

    static void p29_ofAllThatIsFull() {
        AfterYou x = full();
        long before = x.digest();
        x.image(1);
        x.disperse();
        x.forget();
        x.clear();
        x.owe(0, 7, 0);
        x.waits(5, NONE);
        x.leg(4, 5, 0);
        taken(x, "back", 1, () -> x.from(1));
        due("all of it", x.digest(), before);
        full(x, "people", () -> x.person(0, 0, 0, 0));
        full(x, "bytes", () -> x.type(0, 1));
        full(x, "events", () -> x.tell(0, 1, 0));
        bad(x, "the queue", BAD, () -> x.come(0));
    }

    static void p29_aFaultIsKeptToo() {
        AfterYou x = book("older");
        x.image(0);
        x.clear();
        due("none", x.fault(), NONE);
        x.from(0);
        due("the fault", x.fault(), 5);
        write(x, ";");
        due("it goes on from there", x.fault(), NONE);
    }

    // ---- 30: from

    static void p30_noneWasKept() {
        AfterYou x = plain(1);
        no(x, "0", NO, () -> x.from(0));
        no(x, "1", NO, () -> x.from(1));
    }

    static void p30_theOtherOneWasKept() {
        AfterYou x = plain(1);
        x.image(1);
        no(x, "0", NO, () -> x.from(0));
        taken(x, "1", 1, () -> x.from(1));
        AfterYou y = plain(1);
        y.image(0);
        no(y, "1", NO, () -> y.from(1));
        taken(y, "0", 1, () -> y.from(0));
    }

    static void p30_lowestAndHighest() {
        AfterYou x = plain(1);
        x.image(0);
        x.image(1);
        taken(x, "0", 1, () -> x.from(0));
        taken(x, "1", 1, () -> x.from(1));
        bad(x, "-1", BAD, () -> x.from(-1));
        bad(x, "2", BAD, () -> x.from(2));
        bad(x, "lowest of all", BAD, () -> x.from(LOW));
        bad(x, "highest of all", BAD, () -> x.from(BIG));
    }

    static void p30_badAheadOfNo() {
        AfterYou x = new AfterYou();
        bad(x, "-1", BAD, () -> x.from(-1));
        bad(x, "2", BAD, () -> x.from(2));
    }

    static void p30_theImageStays() {
        AfterYou x = plain(1);
        x.image(0);
        for (int time = 0; time < 3; time++) {
            x.person(0, 2, 0, 0);
            x.owe(0, 1, 9);
            x.from(0);
            due("one is there", x.count(0), 1);
        }
        x.person(0, 2, 0, 0);
        due("he owes nothing", x.owes(0, 1), 0);
    }

    static void p30_theOtherImageStays() {
        AfterYou x = plain(1);
        x.image(0);
        x.person(0, 2, 0, 0);
        x.image(1);
        x.from(0);
        due("one", x.count(0), 1);
        x.from(1);
        due("two: the image was not touched", x.count(0), 2);
    }

    static void p30_theFractionStays() {
        AfterYou x = write(eight(), "older;");
        x.image(0);
        x.firsts(2);
        x.from(0);
        due("above", x.part(0), 2);
        due("below", x.part(1), 7);
        x.image(1);
        x.firsts(7);
        x.from(1);
        due("above", x.part(0), 1);
        due("below", x.part(1), 1);
    }

    static void p30_statusStays() {
        AfterYou x = write(eight(), "older");
        x.image(0);
        x.part(2);
        x.judge();
        x.person(0, 0, 0, 0);
        x.from(0);
        due("BAD", x.status(0), 1);
        due("NO", x.status(1), 1);
        due("FULL", x.status(2), 1);
    }

    static void p30_eachPartComesBack() {
        AfterYou x = write(plain(1, 2), "first;");
        x.meet(0, 1);
        x.come(1);
        x.waits(0, 1);
        x.leg(0, 5, 9);
        x.tell(1, 0, 1);
        x.image(0);
        rewrite(x, "second;");
        x.meet(0, 1);
        x.owe(0, 1, 50);
        x.person(0, 3, 3, 3);
        x.disperse();
        x.come(2);
        x.waits(0, 2);
        x.leg(0, 5, 0);
        x.forget();
        x.tell(0, 1, 1);
        x.from(0);
        due("people", x.count(0), 2);
        due("bows", x.owes(0, 1), 1);
        due("bows", x.owes(1, 0), 0);
        due("the book", x.item(0, 2), 8);
        due("the queue", x.through(0), 1);
        due("doors", x.waits(0, NONE), 1);
        due("legs", x.leg(5, 0, 0), 9);
        due("events", x.learns(), 1 | 1 << 6 | 1 << 7 | 1 << 8);
        rewrite(x, "turn;");
        due("who went first last", x.talk(0, 1, 0), 1);
    }

    static void p30_otherPeopleByTheSameNumbers() {
        AfterYou x = new AfterYou();
        x.image(0);
        x.person(3, 10, 2, 4);
        x.image(1);
        x.from(0);
        x.person(5, 99, 9, 9);
        x.from(1);
        due("old", x.counts(0, 0), 10);
        due("laden", x.counts(0, 1), 5);
        due("high", x.counts(0, 2), 6);
    }

    static void p30_otherEventsByTheSameNumbers() {
        AfterYou x = plain(1, 2);
        for (int event = 0; event < 16; event++) {
            x.tell(0, 1, 0);
        }
        long before = x.digest();
        x.image(0);
        x.forget();
        for (int event = 0; event < 16; event++) {
            x.tell(1, 0, 1);
        }
        x.from(0);
        due("all sixteen", x.digest(), before);
    }

    static void p30_anotherTextOfTheSameLength() {
        AfterYou x = book(times(20, "older 1;"));
        long before = x.digest();
        x.image(0);
        rewrite(x, times(20, "lower 2;"));
        x.from(0);
        due("all 160 bytes", x.digest(), before);
    }

    static void p30_anotherQueueOfTheSameLength() {
        AfterYou x = queue(eight(), 0, 1, 2, 3, 4, 5, 6, 7);
        long before = x.digest();
        x.image(1);
        x.disperse();
        queue(x, 7, 6, 5, 4, 3, 2, 1, 0);
        x.from(1);
        due("all eight", x.digest(), before);
    }

    // ---- 31: status

    static void p31_lowestAndHighest() {
        AfterYou x = new AfterYou();
        due("0", x.status(0), 0);
        due("1", x.status(1), 0);
        due("2", x.status(2), 0);
        bad(x, "-1", -1, () -> x.status(-1));
        bad(x, "3", -1, () -> x.status(3));
        bad(x, "lowest of all", -1, () -> x.status(LOW));
        bad(x, "highest of all", -1, () -> x.status(BIG));
        due("they count as BAD", x.status(0), 4);
    }

    static void p31_eachRefusalOnce() {
        AfterYou x = eight();
        for (int time = 1; time <= 20; time++) {
            x.part(2);
            x.from(0);
            x.person(0, 0, 0, 0);
            due("BAD", x.status(0), time);
            due("NO", x.status(1), time);
            due("FULL", x.status(2), time);
        }
    }

    static void p31_minusTenCountsAsBad() {
        AfterYou x = plain(1);
        x.through(-2);
        due("through", x.status(0), 1);
        x.soonest(-2);
        due("soonest", x.status(0), 2);
        x.waits(6, 0);
        due("waits", x.status(0), 3);
        x.way(0, 6, 0, 0);
        due("way", x.status(0), 4);
        x.struck(0, 0);
        due("struck", x.status(0), 5);
        due("none is NO", x.status(1), 0);
    }

    static void p31_minusTwentyCountsAsNo() {
        AfterYou x = write(plain(1), "x");
        x.through(0);
        due("through", x.status(1), 1);
        x.soonest(0);
        due("soonest", x.status(1), 2);
        x.way(0, 0, 0, 0);
        due("way", x.status(1), 3);
        due("none is BAD", x.status(0), 0);
    }

    static void p31_noneAndNotSoManyAreNotRefused() {
        AfterYou x = plain(1, 2);
        x.fault();
        x.talk(0, 1, 0);
        x.meet(0, 1);
        x.avoid();
        x.through(5);
        x.soonest(5);
        x.way(0, 0, 1, 0);
        x.way(0, 0, 0, 5);
        x.judge();
        x.have(0, 1, true);
        x.strikes();
        x.waits(0, NONE);
        x.come(0);
        x.come(1);
        x.through(NONE);
        for (int what = 0; what < 3; what++) {
            due("status " + what, x.status(what), 0);
        }
    }

    static void p31_oneCallIsRefusedAsOneThing() {
        AfterYou x = write(eight(), "x");
        x.item(9, 9);
        x.talk(-1, -1, -1);
        x.way(-1, -1, -1, -2);
        x.person(-1, -1, -1, -1);
        due("BAD", x.status(0), 4);
        due("NO", x.status(1), 0);
        due("FULL", x.status(2), 0);
    }

    // ---- 32: count

    static void p32_lowestAndHighest() {
        AfterYou x = plain(1);
        asksOnly(x, "0", 1, () -> x.count(0));
        asksOnly(x, "3", 0, () -> x.count(3));
        bad(x, "-1", BAD, () -> x.count(-1));
        bad(x, "4", BAD, () -> x.count(4));
        bad(x, "lowest of all", BAD, () -> x.count(LOW));
        bad(x, "highest of all", BAD, () -> x.count(BIG));
    }

    static void p32_empty() {
        AfterYou x = new AfterYou();
        for (int what = 0; what < 4; what++) {
            int w = what;
            asksOnly(x, "count " + what, 0, () -> x.count(w));
        }
    }

    static void p32_full() {
        AfterYou x = full();
        asksOnly(x, "people", 8, () -> x.count(0));
        asksOnly(x, "bytes", 160, () -> x.count(1));
        asksOnly(x, "queue", 8, () -> x.count(2));
        asksOnly(x, "events", 16, () -> x.count(3));
    }

    static void p32_eachOfItsOwn() {
        AfterYou x = queue(write(plain(1, 2, 3), "older;"), 0, 1);
        x.tell(0, 1, 0);
        asksOnly(x, "people", 3, () -> x.count(0));
        asksOnly(x, "bytes", 6, () -> x.count(1));
        asksOnly(x, "queue", 2, () -> x.count(2));
        asksOnly(x, "events", 1, () -> x.count(3));
    }

    // ---- 33: digest

    /** All that can be full is: people, bytes, the queue, doors, legs, bows, events. */
    private static AfterYou full() {
        AfterYou x = new AfterYou();
        for (int person = 0; person < 8; person++) {
            x.person(5, 99, 9, 9);
        }
        for (int by = 0; by < 8; by++) {
            for (int to = 0; to < 8; to++) {
                x.owe(by, to, 99);
            }
        }
        for (int k = 0; k < 20; k++) {
            x.type(-1L, 8);
        }
        for (int person = 7; person >= 0; person--) {
            x.come(person);
        }
        for (int a = 0; a < 6; a++) {
            x.waits(a, 7);
            for (int b = a + 1; b < 6; b++) {
                x.leg(a, b, 99);
            }
        }
        for (int event = 0; event < 16; event++) {
            x.tell(7, 6, 6);
        }
        return x;
    }

    private static long mix(long before, int times, int... values) {
        long h = before;
        for (int k = 0; k < times; k++) {
            for (int v : values) {
                h = 31 * h + v;
            }
        }
        return h;
    }

    /** Behind PEOPLE: all BOWS alike, nobody went first LAST. */
    private static long bows(long before, int bows) {
        long h = before;
        for (int by = 0; by < 8; by++) {
            for (int to = 0; to < 8; to++) {
                h = mix(h, 1, by == to ? 0 : bows);
                if (by < to) {
                    h = mix(h, 1, NONE);
                }
            }
        }
        return h;
    }

    static void p33_ofANewObject() {
        long h = mix(647, 4, 0);
        h = bows(h, 0);
        h = mix(h, 6, NONE);
        h = mix(h, 15, 0);
        h = mix(h, 1, 0, 1);
        due("digest", new AfterYou().digest(), h);
    }

    static void p33_ofAllThatIsFull() {
        long h = mix(647, 1, 8, 160, 8, 16);
        h = mix(h, 8, 5, 99, 9, 9);
        h = bows(h, 99);
        h = mix(h, 160, 255);
        h = mix(h, 1, 7, 6, 5, 4, 3, 2, 1, 0);
        h = mix(h, 6, 7);
        h = mix(h, 15, 99);
        h = mix(h, 16, 7, 6, 6);
        h = mix(h, 1, 0, 1);
        due("digest", full().digest(), h);
    }

    private static void differs(String what, long before, long after, long by) {
        due(what, after - before, by);
    }

    private static long power(int n) {
        long p = 1;
        for (int k = 0; k < n; k++) {
            p *= 31;
        }
        return p;
    }

    static void p33_lowestAndHighestByte() {
        AfterYou x = new AfterYou();
        x.type(0, 1);
        long zero = x.digest();
        x.clear();
        x.type(255, 1);
        differs("255 and 0", zero, x.digest(), 255 * power(23));
        x.clear();
        x.type(128, 1);
        differs("128 and 0", zero, x.digest(), 128 * power(23));
    }

    static void p33_whoWentFirstLast() {
        AfterYou x = write(eight(), "first;");
        long before = x.digest();
        x.meet(7, 6);
        x.owe(7, 6, 0);
        differs("6 and 7: 7", before, x.digest(), 8 * power(lastPlace(6, 7) + 6 + 23));
        AfterYou y = write(eight(), "first;");
        y.meet(0, 1);
        y.owe(0, 1, 0);
        differs("0 and 1: 0", before, y.digest(), power(lastPlace(0, 1) + 6 + 23));
    }

    /** How many values of BOWS and LAST stand behind the LAST of two. */
    private static int lastPlace(int one, int other) {
        int behind = 0;
        for (int by = 0; by < 8; by++) {
            for (int to = 0; to < 8; to++) {
                boolean later = by > one || by == one && to > other;
                behind += later ? by < to ? 2 : 1 : 0;
            }
        }
        return behind;
    }

    static void p33_firstAndLastLeg() {
        AfterYou x = new AfterYou();
        long before = x.digest();
        x.leg(0, 1, 99);
        differs("0 and 1", before, x.digest(), 99 * power(16));
        x.leg(0, 1, 0);
        x.leg(5, 4, 99);
        differs("4 and 5", before, x.digest(), 99 * power(2));
    }

    static void p33_firstAndLastDoor() {
        AfterYou x = plain(1);
        long before = x.digest();
        x.waits(0, 0);
        differs("door 0", before, x.digest(), power(22));
        x.waits(0, NONE);
        x.waits(5, 0);
        differs("door 5", before, x.digest(), power(17));
    }

    static void p33_theFraction() {
        AfterYou x = write(plain(1, 2), "older;");
        long before = x.digest();
        x.firsts(0);
        differs("0 by 1", before, x.digest(), 0);
        x.firsts(1);
        differs("1 by 1", before, x.digest(), 31);
        rewrite(x, "first;");
        long whole = x.digest();
        x.firsts(1);
        differs("1 by 2", whole, x.digest(), 1);
    }

    static void p33_statusAndImagesAreNotInIt() {
        AfterYou x = write(eight(), "x");
        long before = x.digest();
        x.part(2);
        x.judge();
        x.person(0, 0, 0, 0);
        x.image(0);
        x.image(1);
        due("digest", x.digest(), before);
    }

    static void p33_whatWasThereIsNotInIt() {
        AfterYou x = queue(write(plain(1, 2), "older;"), 0, 1);
        x.tell(0, 1, 0);
        x.clear();
        x.disperse();
        x.forget();
        due("digest", x.digest(), plain(1, 2).digest());
    }
}
