/** The boundary cases of promises 17 to 27: doors, days, bows. */
public final class Bounds17To27Test extends Checks {
    public static void main(String[] args) throws ReflectiveOperationException {
        runAll(Bounds17To27Test.class, 17, 27);
    }

    // ---- 17: waits

    static void p17_doorLowestAndHighest() {
        AfterYou x = plain(1, 2);
        taken(x, "door 0", NONE, () -> x.waits(0, 1));
        taken(x, "door 5", NONE, () -> x.waits(5, 1));
        bad(x, "door -1", FAR_BAD, () -> x.waits(-1, 1));
        bad(x, "door 6", FAR_BAD, () -> x.waits(6, 1));
        bad(x, "door lowest of all", FAR_BAD, () -> x.waits(LOW, 1));
        bad(x, "door highest of all", FAR_BAD, () -> x.waits(BIG, 1));
        bad(x, "nobody at door 6", FAR_BAD, () -> x.waits(6, NONE));
    }

    static void p17_personLowestAndHighest() {
        AfterYou x = eight();
        taken(x, "person 0", NONE, () -> x.waits(0, 0));
        taken(x, "person 7", 0, () -> x.waits(0, 7));
        bad(x, "person 8", FAR_BAD, () -> x.waits(0, 8));
        bad(x, "person highest of all", FAR_BAD, () -> x.waits(0, BIG));
        taken(x, "person 7 did", 7, () -> x.waits(0, 1));
    }

    static void p17_nobody() {
        AfterYou x = plain(1, 2);
        taken(x, "nobody did, nobody does", NONE, () -> x.waits(3, NONE));
        x.waits(3, 1);
        taken(x, "he did, nobody does", 1, () -> x.waits(3, NONE));
        bad(x, "below nobody", FAR_BAD, () -> x.waits(3, -2));
        bad(x, "lowest of all", FAR_BAD, () -> x.waits(3, LOW));
        taken(x, "still nobody", NONE, () -> x.waits(3, NONE));
    }

    static void p17_notYetAPerson() {
        AfterYou x = new AfterYou();
        taken(x, "nobody may wait", NONE, () -> x.waits(0, NONE));
        bad(x, "person 0", FAR_BAD, () -> x.waits(0, 0));
        x.person(0, 1, 1, 1);
        taken(x, "he is there", NONE, () -> x.waits(0, 0));
    }

    static void p17_oneAtAllDoors() {
        AfterYou x = plain(1, 2);
        for (int door = 0; door < 6; door++) {
            due("door " + door, x.waits(door, 1), NONE);
        }
        for (int door = 0; door < 6; door++) {
            due("he waits at " + door, x.waits(door, 1), 1);
        }
    }

    // ---- 18: leg

    static void p18_minutesLowest() {
        AfterYou x = new AfterYou();
        taken(x, "1 minute", 0, () -> x.leg(0, 1, 1));
        taken(x, "0: none", 1, () -> x.leg(0, 1, 0));
        taken(x, "none there was", 0, () -> x.leg(0, 1, 7));
        bad(x, "-1 minutes", BAD, () -> x.leg(0, 1, -1));
        bad(x, "minutes lowest of all", BAD, () -> x.leg(0, 1, LOW));
    }

    static void p18_minutesHighest() {
        AfterYou x = new AfterYou();
        taken(x, "99 minutes", 0, () -> x.leg(0, 1, 99));
        bad(x, "100 minutes", BAD, () -> x.leg(0, 1, 100));
        bad(x, "minutes highest of all", BAD, () -> x.leg(0, 1, BIG));
        taken(x, "99 it was", 99, () -> x.leg(0, 1, 98));
    }

    static void p18_doorLowestAndHighest() {
        AfterYou x = new AfterYou();
        taken(x, "0 and 5", 0, () -> x.leg(0, 5, 4));
        taken(x, "5 and 0", 4, () -> x.leg(5, 0, 5));
        bad(x, "-1 and 5", BAD, () -> x.leg(-1, 5, 4));
        bad(x, "5 and -1", BAD, () -> x.leg(5, -1, 4));
        bad(x, "6 and 0", BAD, () -> x.leg(6, 0, 4));
        bad(x, "0 and 6", BAD, () -> x.leg(0, 6, 4));
        bad(x, "lowest of all", BAD, () -> x.leg(LOW, 0, 4));
        bad(x, "highest of all", BAD, () -> x.leg(0, BIG, 4));
    }

    static void p18_alike() {
        AfterYou x = new AfterYou();
        bad(x, "0 and 0", BAD, () -> x.leg(0, 0, 1));
        bad(x, "5 and 5, none", BAD, () -> x.leg(5, 5, 0));
    }

    static void p18_aLegIsOneBothWays() {
        AfterYou x = new AfterYou();
        x.leg(4, 2, 9);
        taken(x, "the other way", 9, () -> x.leg(2, 4, 0));
        taken(x, "none any more", 0, () -> x.leg(4, 2, 0));
    }

    static void p18_allFifteen() {
        AfterYou x = new AfterYou();
        for (int a = 0; a < 6; a++) {
            for (int b = a + 1; b < 6; b++) {
                x.leg(a, b, 10 * a + b);
            }
        }
        for (int a = 0; a < 6; a++) {
            for (int b = a + 1; b < 6; b++) {
                due("leg " + a + " " + b, x.leg(b, a, 0), 10 * a + b);
            }
        }
    }

    // ---- 19: way

    /** DOORS in a row, 99 minutes between. */
    private static AfterYou row(AfterYou x) {
        for (int door = 0; door < 5; door++) {
            x.leg(door, door + 1, 99);
        }
        return x;
    }

    static void p19_longest() {
        AfterYou x = row(plain(1, 2));
        asksOnly(x, "minutes", 495, () -> x.way(0, 0, 5, NONE));
        asksOnly(x, "the first door", 0, () -> x.way(0, 0, 5, 0));
        asksOnly(x, "the last door", 5, () -> x.way(0, 0, 5, 5));
        asksOnly(x, "not so many", FEWER, () -> x.way(0, 0, 5, 6));
        asksOnly(x, "not so many by far", FEWER, () -> x.way(0, 0, 5, BIG));
        asksOnly(x, "backwards", 495, () -> x.way(0, 5, 0, NONE));
        asksOnly(x, "backwards, the last door", 0, () -> x.way(0, 5, 0, 5));
    }

    static void p19_longestWithSomeoneAtEachDoor() {
        AfterYou x = write(row(plain(1, 2)), "from 9 first;");
        for (int door = 0; door < 6; door++) {
            x.waits(door, 1);
        }
        asksOnly(x, "nine rounds and one more at five doors", 545, () -> x.way(0, 0, 5, NONE));
        asksOnly(x, "he himself is met by nobody", 495, () -> x.way(1, 0, 5, NONE));
    }

    static void p19_shortest() {
        AfterYou x = plain(1, 2);
        x.leg(3, 4, 1);
        asksOnly(x, "one minute", 1, () -> x.way(0, 3, 4, NONE));
        asksOnly(x, "two doors", 4, () -> x.way(0, 3, 4, 1));
        asksOnly(x, "not three", FEWER, () -> x.way(0, 3, 4, 2));
    }

    static void p19_thereAlready() {
        AfterYou x = row(write(plain(1, 2), "again first;"));
        x.waits(2, 1);
        asksOnly(x, "no minutes", 0, () -> x.way(0, 2, 2, NONE));
        asksOnly(x, "the first door", 2, () -> x.way(0, 2, 2, 0));
        asksOnly(x, "not so many", FEWER, () -> x.way(0, 2, 2, 1));
    }

    static void p19_personLowestAndHighest() {
        AfterYou x = row(eight());
        asksOnly(x, "person 0", 99, () -> x.way(0, 0, 1, NONE));
        asksOnly(x, "person 7", 99, () -> x.way(7, 0, 1, NONE));
        bad(x, "person -1", FAR_BAD, () -> x.way(-1, 0, 1, NONE));
        bad(x, "person 8", FAR_BAD, () -> x.way(8, 0, 1, NONE));
        bad(x, "person lowest of all", FAR_BAD, () -> x.way(LOW, 0, 1, NONE));
        bad(x, "person highest of all", FAR_BAD, () -> x.way(BIG, 0, 1, NONE));
    }

    static void p19_notYetAPerson() {
        AfterYou x = row(new AfterYou());
        bad(x, "person 0", FAR_BAD, () -> x.way(0, 0, 1, NONE));
    }

    static void p19_fromLowestAndHighest() {
        AfterYou x = row(plain(1));
        asksOnly(x, "from 0", 99, () -> x.way(0, 0, 1, NONE));
        asksOnly(x, "from 5", 99, () -> x.way(0, 5, 4, NONE));
        bad(x, "from -1", FAR_BAD, () -> x.way(0, -1, 1, NONE));
        bad(x, "from 6", FAR_BAD, () -> x.way(0, 6, 1, NONE));
        bad(x, "from lowest of all", FAR_BAD, () -> x.way(0, LOW, 1, NONE));
        bad(x, "from highest of all", FAR_BAD, () -> x.way(0, BIG, 1, NONE));
    }

    static void p19_toLowestAndHighest() {
        AfterYou x = row(plain(1));
        asksOnly(x, "to 0", 99, () -> x.way(0, 1, 0, NONE));
        asksOnly(x, "to 5", 99, () -> x.way(0, 4, 5, NONE));
        bad(x, "to -1", FAR_BAD, () -> x.way(0, 1, -1, NONE));
        bad(x, "to 6", FAR_BAD, () -> x.way(0, 1, 6, NONE));
        bad(x, "to lowest of all", FAR_BAD, () -> x.way(0, 1, LOW, NONE));
        bad(x, "to highest of all", FAR_BAD, () -> x.way(0, 1, BIG, NONE));
        bad(x, "6 to 6", FAR_BAD, () -> x.way(0, 6, 6, NONE));
    }

    static void p19_iLowest() {
        AfterYou x = row(plain(1));
        asksOnly(x, "-1", 99, () -> x.way(0, 0, 1, -1));
        bad(x, "-2", FAR_BAD, () -> x.way(0, 0, 1, -2));
        bad(x, "lowest of all", FAR_BAD, () -> x.way(0, 0, 1, LOW));
    }

    static void p19_noLegs() {
        AfterYou x = plain(1);
        asksOnly(x, "minutes", NONE, () -> x.way(0, 0, 5, NONE));
        asksOnly(x, "the first door", NONE, () -> x.way(0, 0, 5, 0));
        asksOnly(x, "none ahead of not so many", NONE, () -> x.way(0, 0, 5, BIG));
    }

    static void p19_aLegThatWasTakenAway() {
        AfterYou x = row(plain(1));
        x.leg(2, 3, 0);
        asksOnly(x, "on this side", 198, () -> x.way(0, 0, 2, NONE));
        asksOnly(x, "not beyond", NONE, () -> x.way(0, 0, 3, NONE));
    }

    static void p19_roundsAndOneMore() {
        AfterYou x = write(plain(10, 20, 30), "from 3 older;");
        x.leg(0, 1, 5);
        x.waits(1, 0);
        asksOnly(x, "three rounds, he goes", 8, () -> x.way(1, 0, 1, NONE));
        x.waits(1, 2);
        asksOnly(x, "three rounds, he lets him go", 9, () -> x.way(1, 0, 1, NONE));
    }

    static void p19_whoWaitsCameFirst() {
        AfterYou x = write(plain(1, 2), "first;");
        x.leg(0, 1, 5);
        x.waits(1, 0);
        asksOnly(x, "first: he lets him go", 7, () -> x.way(1, 0, 1, NONE));
        rewrite(x, "second;");
        asksOnly(x, "second: he goes", 6, () -> x.way(1, 0, 1, NONE));
    }

    static void p19_notAtTheFirstDoor() {
        AfterYou x = write(plain(1, 2), "again first;");
        x.leg(0, 1, 5);
        x.waits(0, 0);
        asksOnly(x, "he meets nobody there", 5, () -> x.way(1, 0, 1, NONE));
        asksOnly(x, "nor can he come back", NONE, () -> x.way(1, 1, 0, NONE));
    }

    static void p19_neverAtTheLastDoor() {
        AfterYou x = row(write(plain(1, 2), "again first;"));
        x.waits(5, 1);
        asksOnly(x, "not there", NONE, () -> x.way(0, 0, 5, NONE));
        asksOnly(x, "no first door", NONE, () -> x.way(0, 0, 5, 0));
        asksOnly(x, "the one ahead of it", 396, () -> x.way(0, 0, 4, NONE));
    }

    static void p19_neverOnTheWay() {
        AfterYou x = write(plain(1, 2), "again first;");
        x.leg(0, 1, 1);
        x.leg(1, 5, 1);
        x.leg(0, 5, 99);
        asksOnly(x, "over 1", 2, () -> x.way(0, 0, 5, NONE));
        x.waits(1, 1);
        asksOnly(x, "not over 1", 99, () -> x.way(0, 0, 5, NONE));
        asksOnly(x, "he who waits there goes over it", 2, () -> x.way(1, 0, 5, NONE));
    }

    static void p19_ofLikeWaysTheFirstByDoors() {
        AfterYou x = plain(1);
        x.leg(0, 4, 1);
        x.leg(4, 5, 1);
        x.leg(0, 3, 1);
        x.leg(3, 5, 1);
        asksOnly(x, "over 3", 3, () -> x.way(0, 0, 5, 1));
        x.leg(0, 5, 2);
        asksOnly(x, "over 3, not at once", 3, () -> x.way(0, 0, 5, 1));
        asksOnly(x, "back over 3, too: at once is first by doors", 0, () -> x.way(0, 5, 0, 1));
        x.leg(0, 5, 1);
        asksOnly(x, "at once is sooner", 5, () -> x.way(0, 0, 5, 1));
    }

    static void p19_ofLikeWaysTheLaterDoorsCountToo() {
        AfterYou x = plain(1);
        x.leg(0, 1, 1);
        x.leg(1, 4, 1);
        x.leg(1, 3, 1);
        x.leg(3, 5, 1);
        x.leg(4, 5, 1);
        asksOnly(x, "over 1", 1, () -> x.way(0, 0, 5, 1));
        asksOnly(x, "then over 3", 3, () -> x.way(0, 0, 5, 2));
        asksOnly(x, "then there", 5, () -> x.way(0, 0, 5, 3));
    }

    static void p19_badAheadOfNo() {
        AfterYou x = row(write(plain(1), "x"));
        bad(x, "person", FAR_BAD, () -> x.way(1, 0, 1, NONE));
        bad(x, "from", FAR_BAD, () -> x.way(0, 6, 1, NONE));
        bad(x, "to", FAR_BAD, () -> x.way(0, 0, 6, NONE));
        bad(x, "i", FAR_BAD, () -> x.way(0, 0, 1, -2));
        no(x, "a fault", FAR_NO, () -> x.way(0, 0, 1, NONE));
        no(x, "a fault, there already", FAR_NO, () -> x.way(0, 0, 0, 0));
        no(x, "a fault, not so many", FAR_NO, () -> x.way(0, 0, 1, BIG));
    }

    // ---- 20: tell

    static void p20_theSixteenthIsTakenTheSeventeenthIsFull() {
        AfterYou x = plain(1, 2);
        for (int event = 0; event < 15; event++) {
            due("event " + event, x.tell(0, 1, 0), event);
        }
        taken(x, "the sixteenth", 15, () -> x.tell(1, 0, 0));
        full(x, "the seventeenth", () -> x.tell(0, 1, 0));
        full(x, "once more", () -> x.tell(1, 0, 1));
        due("sixteen", x.count(3), 16);
    }

    static void p20_badAheadOfFull() {
        AfterYou x = plain(1, 2);
        for (int event = 0; event < 16; event++) {
            x.tell(0, 1, 0);
        }
        bad(x, "alike", BAD, () -> x.tell(0, 0, 0));
        bad(x, "went neither", BAD, () -> x.tell(0, 1, 2));
        bad(x, "nobody", BAD, () -> x.tell(0, 2, 0));
    }

    static void p20_lowestAndHighestPerson() {
        AfterYou x = eight();
        taken(x, "0 and 7", 0, () -> x.tell(0, 7, 7));
        taken(x, "7 and 0", 1, () -> x.tell(7, 0, 0));
        bad(x, "-1 first", BAD, () -> x.tell(-1, 0, 0));
        bad(x, "-1 second", BAD, () -> x.tell(0, -1, 0));
        bad(x, "8 first", BAD, () -> x.tell(8, 0, 0));
        bad(x, "8 second", BAD, () -> x.tell(0, 8, 0));
        bad(x, "8 went", BAD, () -> x.tell(0, 8, 8));
        bad(x, "lowest of all", BAD, () -> x.tell(LOW, 0, 0));
        bad(x, "highest of all", BAD, () -> x.tell(0, BIG, 0));
    }

    static void p20_alike() {
        AfterYou x = plain(1, 2);
        bad(x, "0 and 0", BAD, () -> x.tell(0, 0, 0));
        bad(x, "1 and 1", BAD, () -> x.tell(1, 1, 1));
    }

    static void p20_wentNeither() {
        AfterYou x = plain(1, 2, 3);
        taken(x, "the first", 0, () -> x.tell(0, 1, 0));
        taken(x, "the other one", 1, () -> x.tell(0, 1, 1));
        bad(x, "a third", BAD, () -> x.tell(0, 1, 2));
        bad(x, "nobody", BAD, () -> x.tell(0, 1, NONE));
        bad(x, "lowest of all", BAD, () -> x.tell(0, 1, LOW));
        bad(x, "highest of all", BAD, () -> x.tell(0, 1, BIG));
    }

    static void p20_notYetAPerson() {
        AfterYou x = plain(1);
        bad(x, "1 is not there", BAD, () -> x.tell(0, 1, 0));
        bad(x, "1 is not there", BAD, () -> x.tell(1, 0, 0));
    }

    static void p20_aRefusedOneGetsNoNumber() {
        AfterYou x = plain(1, 2);
        x.tell(0, 1, 0);
        bad(x, "alike", BAD, () -> x.tell(0, 0, 0));
        taken(x, "the next one", 1, () -> x.tell(0, 1, 0));
    }

    static void p20_nobodyOwesByIt() {
        AfterYou x = plain(1, 2);
        x.tell(0, 1, 0);
        due("owes", x.owes(0, 1), 0);
    }

    // ---- 21: forget

    static void p21_empty() {
        AfterYou x = plain(1, 2);
        taken(x, "none", 0, x::forget);
        taken(x, "none again", 0, x::forget);
    }

    static void p21_one() {
        AfterYou x = plain(1, 2);
        x.tell(0, 1, 0);
        taken(x, "one", 1, x::forget);
        due("none", x.count(3), 0);
        taken(x, "anew", 0, () -> x.tell(1, 0, 1));
    }

    static void p21_full() {
        AfterYou x = plain(1, 2);
        for (int event = 0; event < 16; event++) {
            x.tell(0, 1, 0);
        }
        taken(x, "sixteen", 16, x::forget);
        taken(x, "none more", 0, x::forget);
        taken(x, "room again", 0, () -> x.tell(0, 1, 1));
    }

    // ---- 22: judge

    private static AfterYou events(AfterYou x, int n) {
        for (int event = 0; event < n; event++) {
            x.tell(0, 1, 0);
        }
        return x;
    }

    static void p22_noEvents() {
        AfterYou x = write(plain(1, 2), "first;");
        asksOnly(x, "none", NONE, x::judge);
        x.clear();
        asksOnly(x, "none without a book", NONE, x::judge);
    }

    static void p22_theFirstEvent() {
        AfterYou x = write(plain(1, 2), "first;");
        x.tell(0, 1, 1);
        asksOnly(x, "the first", 0, x::judge);
        x.tell(0, 1, 1);
        asksOnly(x, "the first of two", 0, x::judge);
    }

    static void p22_theSixteenthEvent() {
        AfterYou x = events(write(plain(1, 2), "first;"), 15);
        asksOnly(x, "none of fifteen", NONE, x::judge);
        x.tell(0, 1, 1);
        asksOnly(x, "the sixteenth", 15, x::judge);
    }

    static void p22_noneOfSixteen() {
        AfterYou x = events(write(plain(1, 2), "first;"), 16);
        asksOnly(x, "none", NONE, x::judge);
    }

    static void p22_neverToo() {
        AfterYou x = events(plain(1, 2), 1);
        asksOnly(x, "no book", 0, x::judge);
        write(x, "again first;");
        asksOnly(x, "again", 0, x::judge);
        rewrite(x, "from 9 first;");
        asksOnly(x, "in the last round", NONE, x::judge);
    }

    static void p22_bows99AtMost() {
        AfterYou x = events(write(plain(1, 2), "owed;first;"), 3);
        x.owe(0, 1, 99);
        x.owe(1, 0, 99);
        asksOnly(x, "99 to 99, however often he goes", NONE, x::judge);
        x.owe(0, 1, 98);
        x.owe(1, 0, 98);
        asksOnly(x, "98 to 98: then he owes more", 1, x::judge);
    }

    static void p22_fromHowItWasBehindThoseAhead() {
        AfterYou x = write(plain(1, 2), "turn;second;");
        x.tell(0, 1, 1);
        x.tell(0, 1, 0);
        x.tell(0, 1, 1);
        asksOnly(x, "by turns", NONE, x::judge);
        x.tell(0, 1, 1);
        asksOnly(x, "out of turn", 3, x::judge);
    }

    static void p22_aFault() {
        AfterYou x = write(plain(1, 2), "x");
        no(x, "no events", NO, x::judge);
        x.tell(0, 1, 0);
        no(x, "one", NO, x::judge);
    }

    // ---- 23: learns

    static void p23_noEventsAllTen() {
        AfterYou x = plain(1, 2);
        asksOnly(x, "all", 1023, x::learns);
        AfterYou y = new AfterYou();
        asksOnly(y, "all, nobody is there", 1023, y::learns);
    }

    static void p23_none() {
        AfterYou x = plain(1, 1);
        x.tell(0, 1, 0);
        x.tell(0, 1, 0);
        x.tell(0, 1, 1);
        asksOnly(x, "none", 0, x::learns);
    }

    static void p23_lowestAndHighestBit() {
        AfterYou x = plain(1, 2);
        x.tell(0, 1, 1);
        asksOnly(x, "older, second", 1 | 1 << 9, x::learns);
    }

    static void p23_byOneIsEnough() {
        AfterYou x = new AfterYou();
        x.person(0, 11, 6, 6);
        x.person(0, 10, 5, 5);
        x.tell(0, 1, 0);
        asksOnly(x, "older, laden, higher, first", 1 | 1 << 2 | 1 << 4 | 1 << 8, x::learns);
        x.forget();
        x.tell(0, 1, 1);
        asksOnly(x, "younger, unladen, lower, second", 1 << 1 | 1 << 3 | 1 << 5 | 1 << 9, x::learns);
    }

    static void p23_byNoneIsNot() {
        AfterYou x = plain(1, 1);
        x.tell(0, 1, 0);
        asksOnly(x, "first alone", 1 << 8, x::learns);
    }

    static void p23_owedByOne() {
        AfterYou x = plain(1, 1);
        x.owe(1, 0, 1);
        x.tell(0, 1, 0);
        asksOnly(x, "owed, first", 1 << 6 | 1 << 8, x::learns);
        x.tell(0, 1, 0);
        asksOnly(x, "then they are even", 1 << 8, x::learns);
    }

    static void p23_turnOfTwoWhoNeverMet() {
        AfterYou x = plain(1, 1);
        x.tell(0, 1, 0);
        x.tell(1, 0, 1);
        asksOnly(x, "first alone", 1 << 8, x::learns);
        write(x, "first;");
        x.meet(1, 0);
        asksOnly(x, "they met: turn, too", 1 << 7 | 1 << 8, x::learns);
    }

    static void p23_theSixteenthEventCounts() {
        AfterYou x = events(plain(1, 1), 15);
        asksOnly(x, "fifteen", 1 << 8, x::learns);
        x.tell(1, 0, 0);
        asksOnly(x, "sixteen", 0, x::learns);
    }

    static void p23_aFaultIsNothingToIt() {
        AfterYou x = events(write(plain(1, 1), "x"), 1);
        asksOnly(x, "learns", 1 << 8, x::learns);
    }

    static void p23_theBookIsAsItWas() {
        AfterYou x = events(write(plain(1, 1), "from 9 again second 99;"), 1);
        asksOnly(x, "learns", 1 << 8, x::learns);
        due("r", x.item(0, 0), 9);
        due("n", x.item(0, 3), 99);
    }

    // ---- 24: struck

    static void p24_nobodyIsThere() {
        AfterYou x = new AfterYou();
        asksOnly(x, "all together", 0, () -> x.struck(NONE, NONE));
        bad(x, "0 and 1", FAR_BAD, () -> x.struck(0, 1));
    }

    static void p24_lowestAndHighestPerson() {
        AfterYou x = eight();
        x.owe(0, 7, 4);
        asksOnly(x, "0 to 7", 4, () -> x.struck(0, 7));
        asksOnly(x, "7 to 0", 0, () -> x.struck(7, 0));
        bad(x, "by 8", FAR_BAD, () -> x.struck(8, 0));
        bad(x, "to 8", FAR_BAD, () -> x.struck(0, 8));
        bad(x, "by -2", FAR_BAD, () -> x.struck(-2, 0));
        bad(x, "to -2", FAR_BAD, () -> x.struck(0, -2));
        bad(x, "lowest of all", FAR_BAD, () -> x.struck(LOW, LOW));
        bad(x, "highest of all", FAR_BAD, () -> x.struck(BIG, BIG));
    }

    static void p24_noneAndSomebody() {
        AfterYou x = plain(1, 2);
        bad(x, "by none", FAR_BAD, () -> x.struck(NONE, 0));
        bad(x, "to none", FAR_BAD, () -> x.struck(0, NONE));
        bad(x, "by none to nobody", FAR_BAD, () -> x.struck(NONE, 2));
        bad(x, "below none", FAR_BAD, () -> x.struck(-2, NONE));
        bad(x, "none to below", FAR_BAD, () -> x.struck(NONE, -2));
    }

    static void p24_alike() {
        AfterYou x = plain(1, 2);
        bad(x, "0 and 0", FAR_BAD, () -> x.struck(0, 0));
        bad(x, "1 and 1", FAR_BAD, () -> x.struck(1, 1));
        bad(x, "-2 and -2", FAR_BAD, () -> x.struck(-2, -2));
    }

    static void p24_notYetAPerson() {
        AfterYou x = plain(1);
        bad(x, "1 is not there", FAR_BAD, () -> x.struck(0, 1));
    }

    static void p24_twoAlike() {
        AfterYou x = plain(1, 2);
        x.owe(0, 1, 99);
        x.owe(1, 0, 99);
        asksOnly(x, "none left", 0, () -> x.struck(0, 1));
        asksOnly(x, "all together", 0, () -> x.struck(NONE, NONE));
        x.owe(1, 0, 98);
        asksOnly(x, "one left", 1, () -> x.struck(0, 1));
        asksOnly(x, "none the other way", 0, () -> x.struck(1, 0));
        x.owe(0, 1, 97);
        asksOnly(x, "one left the other way", 1, () -> x.struck(1, 0));
    }

    static void p24_ringsOfTheLastThree() {
        AfterYou x = eight();
        x.owe(5, 6, 3);
        x.owe(6, 7, 4);
        asksOnly(x, "no ring yet", 7, () -> x.struck(NONE, NONE));
        x.owe(7, 5, 5);
        asksOnly(x, "5 to 6", 0, () -> x.struck(5, 6));
        asksOnly(x, "6 to 7", 1, () -> x.struck(6, 7));
        asksOnly(x, "7 to 5", 2, () -> x.struck(7, 5));
        asksOnly(x, "all together", 3, () -> x.struck(NONE, NONE));
    }

    static void p24_ringsTheOtherWay() {
        AfterYou x = eight();
        x.owe(0, 2, 9);
        x.owe(2, 1, 8);
        x.owe(1, 0, 7);
        asksOnly(x, "0 to 2", 2, () -> x.struck(0, 2));
        asksOnly(x, "2 to 1", 1, () -> x.struck(2, 1));
        asksOnly(x, "1 to 0", 0, () -> x.struck(1, 0));
    }

    static void p24_twoAheadOfThree() {
        AfterYou x = plain(1, 2, 3);
        x.owe(0, 1, 5);
        x.owe(1, 0, 5);
        x.owe(1, 2, 5);
        x.owe(2, 0, 5);
        asksOnly(x, "0 to 1 is struck ahead", 5, () -> x.struck(1, 2));
        asksOnly(x, "all together", 10, () -> x.struck(NONE, NONE));
    }

    static void p24_threeByThreeRising() {
        AfterYou x = plain(1, 2, 3, 4);
        x.owe(0, 1, 1);
        x.owe(1, 2, 1);
        x.owe(2, 0, 1);
        x.owe(1, 3, 1);
        x.owe(3, 0, 1);
        asksOnly(x, "0, 1, 2 ahead of 0, 1, 3", 0, () -> x.struck(1, 2));
        asksOnly(x, "0, 1, 3 stays", 1, () -> x.struck(1, 3));
    }

    static void p24_bothRingsOfAThreeAheadOfTheNext() {
        AfterYou x = plain(1, 2, 3, 4);
        x.owe(0, 2, 1);
        x.owe(2, 1, 1);
        x.owe(1, 0, 1);
        x.owe(2, 3, 1);
        x.owe(3, 0, 1);
        asksOnly(x, "0, 2, 1 ahead of 0, 2, 3", 0, () -> x.struck(2, 1));
        asksOnly(x, "0, 2, 3 stays", 1, () -> x.struck(2, 3));
    }

    static void p24_ringsOfFourStay() {
        AfterYou x = plain(1, 2, 3, 4);
        x.owe(0, 1, 9);
        x.owe(1, 2, 9);
        x.owe(2, 3, 9);
        x.owe(3, 0, 9);
        asksOnly(x, "all together", 36, () -> x.struck(NONE, NONE));
    }

    static void p24_allThereCanBe() {
        AfterYou x = eight();
        for (int by = 0; by < 8; by++) {
            for (int to = by + 1; to < 8; to++) {
                x.owe(by, to, 99);
            }
        }
        asksOnly(x, "no two, no ring", 28 * 99, () -> x.struck(NONE, NONE));
        for (int by = 0; by < 8; by++) {
            for (int to = 0; to < by; to++) {
                x.owe(by, to, 99);
            }
        }
        asksOnly(x, "all two", 0, () -> x.struck(NONE, NONE));
    }

    static void p24_aFaultIsNothingToIt() {
        AfterYou x = write(plain(1, 2), "x");
        x.owe(0, 1, 3);
        asksOnly(x, "struck", 3, () -> x.struck(0, 1));
    }

    // ---- 25: have

    private static AfterYou loads(int kind, int load, int otherLoad, String text) {
        AfterYou x = new AfterYou();
        x.person(kind, 0, load, 0);
        x.person(0, 0, otherLoad, 0);
        return write(x, text);
    }

    static void p25_leastIsNone() {
        AfterYou x = loads(0, 5, 5, "unladen 5;");
        asksOnly(x, "0", 0, () -> x.have(0, 1, true));
        rewrite(x, "unladen 6;");
        asksOnly(x, "none", NONE, () -> x.have(0, 1, true));
    }

    static void p25_leastIsNine() {
        AfterYou x = loads(0, 0, 4, "laden 5;");
        asksOnly(x, "9", 9, () -> x.have(0, 1, true));
        rewrite(x, "laden 6;");
        asksOnly(x, "none", NONE, () -> x.have(0, 1, true));
    }

    static void p25_hisKindCounts() {
        AfterYou x = loads(2, 0, 3, "laden;");
        asksOnly(x, "3 more than told", 1, () -> x.have(0, 1, true));
        AfterYou y = loads(3, 0, 9, "laden 3;");
        asksOnly(y, "9 and 3", 9, () -> y.have(0, 1, true));
    }

    static void p25_heCarriesWhatHeDid() {
        AfterYou x = loads(0, 7, 4, "laden 5;");
        asksOnly(x, "9", 9, () -> x.have(0, 1, true));
        due("as told", x.counts(0, 1), 7);
        rewrite(x, "laden 9;");
        asksOnly(x, "none", NONE, () -> x.have(0, 1, false));
        due("as told still", x.counts(0, 1), 7);
    }

    static void p25_asFirstOrSecondToCome() {
        AfterYou x = loads(0, 0, 4, "laden;first;");
        asksOnly(x, "first, alike", 4, () -> x.have(0, 1, true));
        asksOnly(x, "second, by one", 5, () -> x.have(0, 1, false));
        rewrite(x, "from 2 first;");
        asksOnly(x, "first to come, second round", NONE, () -> x.have(0, 1, true));
        asksOnly(x, "second to come, second round", 0, () -> x.have(0, 1, false));
    }

    static void p25_never() {
        AfterYou x = loads(0, 0, 4, "");
        asksOnly(x, "no book", NONE, () -> x.have(0, 1, true));
        write(x, "again first;");
        asksOnly(x, "again", NONE, () -> x.have(0, 1, true));
    }

    static void p25_lowestAndHighestPerson() {
        AfterYou x = write(eight(), "first;");
        asksOnly(x, "0 and 7", 0, () -> x.have(0, 7, true));
        asksOnly(x, "7 and 0", 0, () -> x.have(7, 0, true));
        bad(x, "-1 and 0", BAD, () -> x.have(-1, 0, true));
        bad(x, "0 and -1", BAD, () -> x.have(0, -1, true));
        bad(x, "8 and 0", BAD, () -> x.have(8, 0, true));
        bad(x, "0 and 8", BAD, () -> x.have(0, 8, false));
        bad(x, "lowest of all", BAD, () -> x.have(LOW, 0, true));
        bad(x, "highest of all", BAD, () -> x.have(0, BIG, true));
    }

    static void p25_alike() {
        AfterYou x = write(plain(1, 2), "first;");
        bad(x, "0 and 0", BAD, () -> x.have(0, 0, true));
        bad(x, "1 and 1", BAD, () -> x.have(1, 1, false));
    }

    static void p25_badAheadOfNo() {
        AfterYou x = write(plain(1, 2), "x");
        bad(x, "alike", BAD, () -> x.have(0, 0, true));
        bad(x, "nobody", BAD, () -> x.have(0, 2, true));
        no(x, "a fault", NO, () -> x.have(0, 1, true));
    }

    // ---- 26: firsts

    private static void share(AfterYou x, int person, int above, int below) {
        taken(x, "firsts of " + person, 1, () -> x.firsts(person));
        due("above", x.part(0), above);
        due("below", x.part(1), below);
    }

    static void p26_nobodyElseIsThere() {
        AfterYou x = write(plain(1), "first;");
        no(x, "he is alone", NO, () -> x.firsts(0));
        x.person(0, 1, 0, 0);
        share(x, 0, 1, 2);
    }

    static void p26_nobodyIsThere() {
        AfterYou x = new AfterYou();
        bad(x, "nobody", BAD, () -> x.firsts(0));
    }

    static void p26_noneOfAll() {
        share(plain(1, 2), 0, 0, 1);
        share(write(eight(), "older;"), 0, 0, 1);
    }

    static void p26_all() {
        share(write(plain(1, 2), "older;"), 1, 1, 1);
        share(write(eight(), "older;"), 7, 1, 1);
    }

    static void p26_oneOfFourteen() {
        share(write(plain(10, 10, 20, 20, 20, 20, 20, 20), "older;first;"), 0, 1, 14);
    }

    static void p26_thirteenOfFourteen() {
        share(write(plain(10, 10, 0, 0, 0, 0, 0, 0), "older;first;"), 0, 13, 14);
    }

    static void p26_lowestTerms() {
        AfterYou x = write(eight(), "older;");
        int[][] due = {{0, 1}, {1, 7}, {2, 7}, {3, 7}, {4, 7}, {5, 7}, {6, 7}, {1, 1}};
        for (int person = 0; person < 8; person++) {
            share(x, person, due[person][0], due[person][1]);
        }
        rewrite(x, "first;");
        share(x, 3, 1, 2);
        share(write(plain(1, 2, 3, 4, 5, 6, 7), "older;"), 3, 1, 2);
        share(write(plain(1, 2, 3, 4, 5, 6, 7), "older;"), 4, 2, 3);
    }

    static void p26_personLowestAndHighest() {
        AfterYou x = write(eight(), "first;");
        share(x, 0, 1, 2);
        share(x, 7, 1, 2);
        bad(x, "-1", BAD, () -> x.firsts(-1));
        bad(x, "8", BAD, () -> x.firsts(8));
        bad(x, "lowest of all", BAD, () -> x.firsts(LOW));
        bad(x, "highest of all", BAD, () -> x.firsts(BIG));
    }

    static void p26_refusedTheFractionStays() {
        AfterYou x = write(eight(), "older;");
        share(x, 2, 2, 7);
        bad(x, "nobody", BAD, () -> x.firsts(8));
        due("above", x.part(0), 2);
        write(x, "x");
        no(x, "a fault", NO, () -> x.firsts(3));
        due("below", x.part(1), 7);
    }

    static void p26_badAheadOfNo() {
        AfterYou x = write(plain(1), "x");
        bad(x, "nobody", BAD, () -> x.firsts(1));
        bad(x, "below", BAD, () -> x.firsts(-1));
        no(x, "a fault", NO, () -> x.firsts(0));
    }

    // ---- 27: strikes

    private static void strikes(AfterYou x, String text, int want) {
        rewrite(x, text);
        asksOnly(x, "strikes of '" + text + "'", want, x::strikes);
    }

    static void p27_noTwoAreThere() {
        strikes(new AfterYou(), "", 0);
        strikes(new AfterYou(), "again first;", 0);
        strikes(plain(1), "", 0);
        strikes(plain(1), "again first;", 0);
    }

    static void p27_twoWithoutABook() {
        strikes(plain(1, 2), "", NONE);
    }

    static void p27_noneNeedsToGo() {
        strikes(plain(1, 2), "first;", 0);
        strikes(plain(1, 2), "from 9 first;", 0);
        strikes(plain(1, 2), times(9, "first;"), 0);
    }

    static void p27_none() {
        strikes(plain(1, 2), "again first;", NONE);
        strikes(plain(1, 2), times(9, "again first;"), NONE);
        strikes(plain(1, 1), "older;younger;turn;", NONE);
    }

    static void p27_allButTheLastOfNine() {
        strikes(plain(1, 2), times(8, "again first;") + "first;", 255);
    }

    static void p27_theLowestBit() {
        strikes(plain(1, 2), "again first;" + times(8, "first;"), 1);
    }

    static void p27_theHighestBit() {
        strikes(plain(1, 1), times(7, "older;") + "again first;first;", 128);
    }

    static void p27_theFewestAheadOfTheLeastBits() {
        strikes(plain(1, 2), "from 2 again first;from 2 again first;from 2 second;again first;second;", 8);
    }

    static void p27_ofLikeOnesTheLeastBits() {
        strikes(plain(1, 2), "from 2 again first;from 2 second;again first;second;", 1);
    }

    static void p27_allTwoOfEight() {
        strikes(plain(10, 20, 30, 40, 50, 60, 70, 70), "again higher;older;", NONE);
        strikes(plain(10, 20, 30, 40, 50, 60, 70, 70), "again older 60;older;second;", 1);
        strikes(plain(10, 20, 30, 40, 50, 60, 70, 70), "again older 61;older;second;", 0);
    }

    static void p27_onlyInTheLastRound() {
        strikes(plain(1, 2), "again older;from 9 first;", 1);
        strikes(plain(1, 2), "from 9 first;again older;", 0);
    }

    static void p27_aFault() {
        AfterYou x = write(plain(1, 2), "x");
        no(x, "two", NO, x::strikes);
        AfterYou y = book("x");
        no(y, "nobody", NO, y::strikes);
    }
}
