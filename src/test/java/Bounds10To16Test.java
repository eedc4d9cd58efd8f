/** The boundary cases of promises 10 to 16: two, queues. */
public final class Bounds10To16Test extends Checks {
    public static void main(String[] args) throws ReflectiveOperationException {
        runAll(Bounds10To16Test.class, 10, 16);
    }

    /** A TALK of 0 and 1, first came 0. */
    private static void talks(AfterYou x, String text, int goer, int rounds, int item) {
        rewrite(x, text);
        asksOnly(x, text + " who", goer, () -> x.talk(0, 1, 0));
        asksOnly(x, text + " rounds", rounds, () -> x.talk(0, 1, 1));
        asksOnly(x, text + " item", item, () -> x.talk(0, 1, 2));
    }

    private static AfterYou two(int load, int rank, int otherLoad, int otherRank) {
        AfterYou x = new AfterYou();
        x.person(0, 0, load, rank);
        x.person(0, 0, otherLoad, otherRank);
        return x;
    }

    // ---- 10: talk

    static void p10_olderByNAtLeast() {
        talks(plain(30, 50), "older 20;", 1, 1, 0);
        talks(plain(30, 50), "older 21;", NONE, 9, NONE);
        talks(plain(50, 30), "older 20;", 0, 1, 0);
        talks(plain(50, 30), "older 21;", NONE, 9, NONE);
    }

    static void p10_youngerByNAtLeast() {
        talks(plain(30, 50), "younger 20;", 0, 1, 0);
        talks(plain(30, 50), "younger 21;", NONE, 9, NONE);
        talks(plain(50, 30), "younger 20;", 1, 1, 0);
        talks(plain(50, 30), "younger 21;", NONE, 9, NONE);
    }

    static void p10_ladenByNAtLeast() {
        talks(two(2, 0, 6, 0), "laden 4;", 1, 1, 0);
        talks(two(2, 0, 6, 0), "laden 5;", NONE, 9, NONE);
        talks(two(6, 0, 2, 0), "laden 4;", 0, 1, 0);
        talks(two(6, 0, 2, 0), "laden 5;", NONE, 9, NONE);
    }

    static void p10_unladenByNAtLeast() {
        talks(two(2, 0, 6, 0), "unladen 4;", 0, 1, 0);
        talks(two(2, 0, 6, 0), "unladen 5;", NONE, 9, NONE);
        talks(two(6, 0, 2, 0), "unladen 4;", 1, 1, 0);
        talks(two(6, 0, 2, 0), "unladen 5;", NONE, 9, NONE);
    }

    static void p10_higherByNAtLeast() {
        talks(two(0, 2, 0, 6), "higher 4;", 1, 1, 0);
        talks(two(0, 2, 0, 6), "higher 5;", NONE, 9, NONE);
        talks(two(0, 6, 0, 2), "higher 4;", 0, 1, 0);
        talks(two(0, 6, 0, 2), "higher 5;", NONE, 9, NONE);
    }

    static void p10_lowerByNAtLeast() {
        talks(two(0, 2, 0, 6), "lower 4;", 0, 1, 0);
        talks(two(0, 2, 0, 6), "lower 5;", NONE, 9, NONE);
        talks(two(0, 6, 0, 2), "lower 4;", 1, 1, 0);
        talks(two(0, 6, 0, 2), "lower 5;", NONE, 9, NONE);
    }

    static void p10_owedByNAtLeast() {
        AfterYou x = plain(1, 1);
        x.owe(0, 1, 7);
        x.owe(1, 0, 3);
        talks(x, "owed 4;", 1, 1, 0);
        talks(x, "owed 5;", NONE, 9, NONE);
        x.owe(1, 0, 11);
        talks(x, "owed 4;", 0, 1, 0);
        talks(x, "owed 5;", NONE, 9, NONE);
    }

    static void p10_byOneIfNoNumberIsTold() {
        talks(plain(31, 30), "older;", 0, 1, 0);
        talks(plain(30, 30), "older;", NONE, 9, NONE);
        talks(plain(30, 30), "younger;", NONE, 9, NONE);
        talks(two(5, 5, 5, 5), "laden;unladen;higher;lower;owed;", NONE, 9, NONE);
    }

    static void p10_byNinetyNine() {
        talks(plain(0, 99), "older 99;", 1, 1, 0);
        talks(plain(0, 98), "older 99;", NONE, 9, NONE);
        AfterYou x = plain(1, 1);
        x.owe(0, 1, 99);
        talks(x, "owed 99;", 1, 1, 0);
        x.owe(1, 0, 1);
        talks(x, "owed 99;", NONE, 9, NONE);
    }

    static void p10_theyCountByTheirKinds() {
        AfterYou x = new AfterYou();
        x.person(5, 99, 0, 9);
        x.person(1, 99, 0, 0);
        talks(x, "older 99;", 0, 1, 0);
        talks(x, "higher 18;", 0, 1, 0);
        talks(x, "higher 19;", NONE, 9, NONE);
    }

    static void p10_turnOfTwoWhoNeverMet() {
        talks(plain(1, 2, 3), "turn;", NONE, 9, NONE);
    }

    static void p10_turnOfTwoWhoMet() {
        AfterYou x = write(plain(1, 2, 3), "first;");
        x.meet(0, 1);
        talks(x, "turn 99;", 1, 1, 0);
        due("turned", x.talk(1, 0, 0), 1);
        due("with a third one they never met", x.talk(0, 2, 0), NONE);
        rewrite(x, "first;");
        x.meet(1, 0);
        talks(x, "turn;", 0, 1, 0);
    }

    static void p10_firstAndSecondAskNoNumber() {
        talks(plain(1, 1), "first 99;", 0, 1, 0);
        talks(plain(1, 1), "second 99;", 1, 1, 0);
    }

    static void p10_roundOne() {
        talks(plain(1, 1), "from 1 first;", 0, 1, 0);
        talks(plain(1, 1), "from 1 second;", 1, 1, 0);
    }

    static void p10_theOtherOneCameFirstInRoundTwo() {
        talks(plain(1, 1), "from 2 first;", 1, 2, 0);
        talks(plain(1, 1), "from 2 second;", 0, 2, 0);
    }

    static void p10_roundsEightAndNine() {
        talks(plain(1, 1), "from 8 first;", 1, 8, 0);
        talks(plain(1, 1), "from 9 first;", 0, 9, 0);
        talks(plain(1, 1), "from 9 second;", 1, 9, 0);
    }

    static void p10_roundJustReached() {
        talks(plain(1, 2), "from 4 older;from 5 younger;", 1, 4, 0);
        talks(plain(1, 2), "from 5 older;from 4 younger;", 0, 4, 1);
    }

    static void p10_againEndsEachRound() {
        talks(plain(1, 2), "again older;first;", NONE, 9, NONE);
        talks(plain(1, 2), "again older 2;first;", 0, 1, 1);
    }

    static void p10_againFromTheLastRound() {
        talks(plain(1, 2), "from 9 again older;from 9 first;", NONE, 9, NONE);
        talks(plain(1, 2), "from 9 again older;from 8 first;", 1, 8, 1);
    }

    static void p10_aheadOfAgainInTheLastRound() {
        talks(plain(1, 1), "from 9 second;again first;", 1, 9, 0);
    }

    static void p10_againAloneIsForEver() {
        talks(plain(1, 1), "again first;", NONE, 9, NONE);
        talks(plain(1, 1), times(9, "again second;"), NONE, 9, NONE);
    }

    static void p10_noItemsIsForEver() {
        talks(plain(1, 99), "", NONE, 9, NONE);
        talks(plain(1, 99), "   ", NONE, 9, NONE);
    }

    static void p10_theNinthItem() {
        talks(plain(1, 1), times(8, "older;") + "first;", 0, 1, 8);
        talks(plain(1, 1), times(9, "first;"), 0, 1, 0);
    }

    static void p10_whatLowestAndHighest() {
        AfterYou x = write(plain(1, 2), "older;");
        asksOnly(x, "what 0", 1, () -> x.talk(0, 1, 0));
        asksOnly(x, "what 2", 0, () -> x.talk(0, 1, 2));
        bad(x, "what -1", BAD, () -> x.talk(0, 1, -1));
        bad(x, "what 3", BAD, () -> x.talk(0, 1, 3));
        bad(x, "what lowest of all", BAD, () -> x.talk(0, 1, LOW));
        bad(x, "what highest of all", BAD, () -> x.talk(0, 1, BIG));
    }

    static void p10_firstToComeLowestAndHighest() {
        AfterYou x = write(eight(), "first;");
        asksOnly(x, "0", 0, () -> x.talk(0, 3, 0));
        asksOnly(x, "7", 7, () -> x.talk(7, 3, 0));
        bad(x, "-1", BAD, () -> x.talk(-1, 3, 0));
        bad(x, "8", BAD, () -> x.talk(8, 3, 0));
        bad(x, "lowest of all", BAD, () -> x.talk(LOW, 3, 0));
        bad(x, "highest of all", BAD, () -> x.talk(BIG, 3, 0));
    }

    static void p10_secondToComeLowestAndHighest() {
        AfterYou x = write(eight(), "second;");
        asksOnly(x, "0", 0, () -> x.talk(3, 0, 0));
        asksOnly(x, "7", 7, () -> x.talk(3, 7, 0));
        bad(x, "-1", BAD, () -> x.talk(3, -1, 0));
        bad(x, "8", BAD, () -> x.talk(3, 8, 0));
        bad(x, "lowest of all", BAD, () -> x.talk(3, LOW, 0));
        bad(x, "highest of all", BAD, () -> x.talk(3, BIG, 0));
    }

    static void p10_alike() {
        AfterYou x = write(plain(1, 2), "first;");
        bad(x, "0 and 0", BAD, () -> x.talk(0, 0, 0));
        bad(x, "1 and 1", BAD, () -> x.talk(1, 1, 2));
    }

    static void p10_notYetAPerson() {
        AfterYou x = write(plain(1), "first;");
        bad(x, "1 is not there", BAD, () -> x.talk(0, 1, 0));
        bad(x, "1 is not there", BAD, () -> x.talk(1, 0, 0));
    }

    static void p10_badAheadOfNo() {
        AfterYou x = write(plain(1, 2), "first");
        bad(x, "alike", BAD, () -> x.talk(0, 0, 0));
        bad(x, "what", BAD, () -> x.talk(0, 1, 3));
        bad(x, "nobody", BAD, () -> x.talk(0, 2, 0));
        no(x, "a fault", NO, () -> x.talk(0, 1, 2));
    }

    // ---- 11: meet

    static void p11_bowsUpTo99() {
        AfterYou x = write(plain(1, 2), "older;");
        x.owe(1, 0, 97);
        taken(x, "98", 1, () -> x.meet(0, 1));
        due("98", x.owes(1, 0), 98);
        taken(x, "99", 1, () -> x.meet(0, 1));
        due("99", x.owes(1, 0), 99);
        taken(x, "99 at most", 1, () -> x.meet(0, 1));
        due("99 at most", x.owes(1, 0), 99);
        due("the other one owes none", x.owes(0, 1), 0);
    }

    static void p11_at99HeIsWhoWentFirstLast() {
        AfterYou x = write(plain(1, 2), "first;");
        x.meet(0, 1);
        x.owe(1, 0, 99);
        x.meet(1, 0);
        due("99 at most", x.owes(1, 0), 99);
        rewrite(x, "turn;");
        due("the other one's turn", x.talk(0, 1, 0), 0);
    }

    static void p11_neverChangesNothing() {
        AfterYou x = plain(1, 2);
        asksOnly(x, "no book", NONE, () -> x.meet(0, 1));
        write(x, "again first;");
        asksOnly(x, "again", NONE, () -> x.meet(0, 1));
        rewrite(x, "turn;");
        due("they never met", x.talk(0, 1, 0), NONE);
    }

    static void p11_neverLeavesWhoWentLast() {
        AfterYou x = write(plain(1, 2), "first;");
        x.meet(0, 1);
        x.clear();
        asksOnly(x, "never", NONE, () -> x.meet(1, 0));
        write(x, "turn;");
        due("the turn is as it was", x.talk(0, 1, 0), 1);
    }

    static void p11_inTheLastRound() {
        AfterYou x = write(plain(1, 2), "from 9 second;");
        taken(x, "round 9", 1, () -> x.meet(0, 1));
        due("he owes", x.owes(1, 0), 1);
    }

    static void p11_lowestAndHighestPerson() {
        AfterYou x = write(eight(), "first;");
        taken(x, "0 and 7", 0, () -> x.meet(0, 7));
        taken(x, "7 and 0", 7, () -> x.meet(7, 0));
        bad(x, "-1 first", BAD, () -> x.meet(-1, 0));
        bad(x, "-1 second", BAD, () -> x.meet(0, -1));
        bad(x, "8 first", BAD, () -> x.meet(8, 0));
        bad(x, "8 second", BAD, () -> x.meet(0, 8));
        bad(x, "lowest of all", BAD, () -> x.meet(LOW, 0));
        bad(x, "highest of all", BAD, () -> x.meet(0, BIG));
    }

    static void p11_alike() {
        AfterYou x = write(plain(1, 2), "first;");
        bad(x, "0 and 0", BAD, () -> x.meet(0, 0));
        bad(x, "1 and 1", BAD, () -> x.meet(1, 1));
    }

    static void p11_notYetAPerson() {
        AfterYou x = write(plain(1), "first;");
        bad(x, "1 is not there", BAD, () -> x.meet(0, 1));
        bad(x, "1 is not there", BAD, () -> x.meet(1, 0));
    }

    static void p11_badAheadOfNo() {
        AfterYou x = write(plain(1, 2), "first");
        bad(x, "alike", BAD, () -> x.meet(0, 0));
        bad(x, "nobody", BAD, () -> x.meet(0, 2));
        no(x, "a fault", NO, () -> x.meet(0, 1));
    }

    // ---- 12: come

    static void p12_lowestAndHighestPerson() {
        AfterYou x = eight();
        taken(x, "0", 1, () -> x.come(0));
        taken(x, "7", 2, () -> x.come(7));
        bad(x, "-1", BAD, () -> x.come(-1));
        bad(x, "8", BAD, () -> x.come(8));
        bad(x, "lowest of all", BAD, () -> x.come(LOW));
        bad(x, "highest of all", BAD, () -> x.come(BIG));
    }

    static void p12_heIsInIt() {
        AfterYou x = queue(plain(1, 2, 3), 1);
        bad(x, "at once", BAD, () -> x.come(1));
        x.come(0);
        bad(x, "as the first of two", BAD, () -> x.come(1));
        bad(x, "as the last of two", BAD, () -> x.come(0));
        due("two are in it", x.count(2), 2);
    }

    static void p12_allEight() {
        AfterYou x = queue(eight(), 7, 6, 5, 4, 3, 2, 1);
        taken(x, "the eighth", 8, () -> x.come(0));
        for (int person = 0; person < 8; person++) {
            int p = person;
            bad(x, "in it: " + p, BAD, () -> x.come(p));
        }
        bad(x, "a ninth", BAD, () -> x.come(8));
        due("eight are in it", x.count(2), 8);
    }

    static void p12_notYetAPerson() {
        AfterYou x = new AfterYou();
        bad(x, "nobody is there", BAD, () -> x.come(0));
        x.person(0, 1, 1, 1);
        taken(x, "he is there", 1, () -> x.come(0));
        bad(x, "1 is not", BAD, () -> x.come(1));
    }

    static void p12_anewBehindDisperse() {
        AfterYou x = queue(plain(1, 2), 0, 1);
        x.disperse();
        taken(x, "anew", 1, () -> x.come(1));
        taken(x, "anew, too", 2, () -> x.come(0));
    }

    // ---- 13: disperse

    static void p13_empty() {
        AfterYou x = plain(1, 2);
        taken(x, "empty", 0, x::disperse);
        taken(x, "empty again", 0, x::disperse);
    }

    static void p13_one() {
        AfterYou x = queue(plain(1, 2), 1);
        taken(x, "one", 1, x::disperse);
        due("empty", x.count(2), 0);
        taken(x, "none more", 0, x::disperse);
    }

    static void p13_full() {
        AfterYou x = queue(eight(), 0, 1, 2, 3, 4, 5, 6, 7);
        taken(x, "eight", 8, x::disperse);
        taken(x, "none more", 0, x::disperse);
        due("the people stay", x.count(0), 8);
    }

    // ---- 14: through

    static void p14_empty() {
        AfterYou x = write(plain(1, 2), "first;");
        asksOnly(x, "minutes", 0, () -> x.through(NONE));
        asksOnly(x, "the first", FEWER, () -> x.through(0));
        asksOnly(x, "highest of all", FEWER, () -> x.through(BIG));
    }

    static void p14_emptyWithoutABook() {
        AfterYou x = new AfterYou();
        asksOnly(x, "minutes", 0, () -> x.through(NONE));
        asksOnly(x, "the first", FEWER, () -> x.through(0));
    }

    static void p14_oneAlone() {
        AfterYou x = queue(plain(1, 2, 3), 2);
        asksOnly(x, "minutes", 1, () -> x.through(NONE));
        asksOnly(x, "the first", 2, () -> x.through(0));
        asksOnly(x, "the second", FEWER, () -> x.through(1));
    }

    static void p14_two() {
        AfterYou x = queue(write(plain(1, 2), "from 9 second;"), 1, 0);
        asksOnly(x, "minutes", 11, () -> x.through(NONE));
        asksOnly(x, "the first", 0, () -> x.through(0));
        asksOnly(x, "the second", 1, () -> x.through(1));
        asksOnly(x, "the third", FEWER, () -> x.through(2));
    }

    static void p14_eight() {
        AfterYou x = queue(write(eight(), "from 9 first;"), 7, 6, 5, 4, 3, 2, 1, 0);
        asksOnly(x, "seven talks of nine rounds, eight go", 71, () -> x.through(NONE));
        asksOnly(x, "the first", 7, () -> x.through(0));
        asksOnly(x, "the last", 0, () -> x.through(7));
        asksOnly(x, "not so many", FEWER, () -> x.through(8));
        asksOnly(x, "not so many by far", FEWER, () -> x.through(BIG));
    }

    static void p14_theFirstWaitsToTheEnd() {
        AfterYou x = queue(write(eight(), "second;"), 0, 1, 2, 3, 4, 5, 6, 7);
        asksOnly(x, "minutes", 15, () -> x.through(NONE));
        asksOnly(x, "the first", 1, () -> x.through(0));
        asksOnly(x, "the seventh", 7, () -> x.through(6));
        asksOnly(x, "the last", 0, () -> x.through(7));
    }

    static void p14_iLowest() {
        AfterYou x = queue(plain(1), 0);
        asksOnly(x, "-1", 1, () -> x.through(-1));
        bad(x, "-2", FAR_BAD, () -> x.through(-2));
        bad(x, "lowest of all", FAR_BAD, () -> x.through(LOW));
    }

    static void p14_shutAtTheFirstTwo() {
        AfterYou x = queue(write(plain(10, 10, 20), "older;"), 0, 1, 2);
        asksOnly(x, "minutes", NONE, () -> x.through(NONE));
        asksOnly(x, "the first", NONE, () -> x.through(0));
        asksOnly(x, "the last", NONE, () -> x.through(2));
    }

    static void p14_shutAtTheLastTwo() {
        AfterYou x = queue(write(plain(10, 20, 10), "older;"), 0, 1, 2);
        asksOnly(x, "minutes", NONE, () -> x.through(NONE));
        asksOnly(x, "the first", NONE, () -> x.through(0));
    }

    static void p14_shutAheadOfNotSoMany() {
        AfterYou x = queue(plain(1, 2), 0, 1);
        asksOnly(x, "beyond", NONE, () -> x.through(2));
        asksOnly(x, "far beyond", NONE, () -> x.through(BIG));
    }

    static void p14_twoWhoDoNotMeetShutNothing() {
        AfterYou x = queue(write(plain(10, 20, 10), "older;"), 1, 0);
        asksOnly(x, "0 and 2 would", 3, () -> x.through(NONE));
        AfterYou y = queue(write(plain(10, 10, 5), "older;"), 0, 2, 1);
        asksOnly(y, "0 goes, so that 0 and 1 never meet", 5, () -> y.through(NONE));
        asksOnly(y, "0 is the first", 0, () -> y.through(0));
    }

    static void p14_whatIsOwedNowCounts() {
        AfterYou x = queue(write(plain(1, 2), "owed 99;first;"), 0, 1);
        asksOnly(x, "nothing owed", 0, () -> x.through(0));
        x.owe(0, 1, 99);
        asksOnly(x, "99 owed", 1, () -> x.through(0));
    }

    static void p14_nothingStays() {
        AfterYou x = queue(write(plain(1, 2, 3), "turn;owed;first;"), 0, 1, 2);
        asksOnly(x, "minutes", 5, () -> x.through(NONE));
        asksOnly(x, "minutes again", 5, () -> x.through(NONE));
        due("nothing is owed", x.struck(NONE, NONE), 0);
    }

    static void p14_badAheadOfNo() {
        AfterYou x = queue(write(plain(1, 2), "x"), 0, 1);
        bad(x, "-2", FAR_BAD, () -> x.through(-2));
        no(x, "minutes", FAR_NO, () -> x.through(NONE));
        no(x, "beyond", FAR_NO, () -> x.through(BIG));
    }

    static void p14_noThoughNobodyIsInIt() {
        AfterYou x = book("x");
        no(x, "minutes", FAR_NO, () -> x.through(NONE));
        no(x, "the first", FAR_NO, () -> x.through(0));
    }

    // ---- 15: soonest

    static void p15_empty() {
        AfterYou x = write(plain(1, 2), "first;");
        asksOnly(x, "minutes", 0, () -> x.soonest(NONE));
        asksOnly(x, "the first", FEWER, () -> x.soonest(0));
        asksOnly(x, "highest of all", FEWER, () -> x.soonest(BIG));
    }

    static void p15_oneAlone() {
        AfterYou x = queue(plain(1, 2, 3), 2);
        asksOnly(x, "minutes", 1, () -> x.soonest(NONE));
        asksOnly(x, "the first", 2, () -> x.soonest(0));
        asksOnly(x, "the second", FEWER, () -> x.soonest(1));
    }

    static void p15_sixAreTakenSevenAreNot() {
        AfterYou x = queue(write(eight(), "from 9 first;"), 7, 6, 5, 4, 3, 2);
        asksOnly(x, "five talks of nine rounds, six go", 51, () -> x.soonest(NONE));
        asksOnly(x, "the last", 7, () -> x.soonest(5));
        asksOnly(x, "not so many", FEWER, () -> x.soonest(6));
        x.come(1);
        no(x, "seven: minutes", FAR_NO, () -> x.soonest(NONE));
        no(x, "seven: the first", FAR_NO, () -> x.soonest(0));
        no(x, "seven: beyond", FAR_NO, () -> x.soonest(7));
        x.come(0);
        no(x, "eight", FAR_NO, () -> x.soonest(NONE));
    }

    static void p15_ofLikeOnesTheFirstByNumbers() {
        AfterYou x = queue(write(eight(), "older;"), 6, 1, 5, 2, 4, 3);
        for (int i = 0; i < 6; i++) {
            int at = i;
            asksOnly(x, "the " + at + "-th", at + 1, () -> x.soonest(at));
        }
    }

    static void p15_onlyTheLastOfAllOrdersIsNotShut() {
        AfterYou x = new AfterYou();
        x.person(0, 2, 0, 1);
        x.person(0, 1, 0, 3);
        x.person(0, 0, 0, 3);
        queue(write(x, "younger 2;again lower;second;"), 0, 1, 2);
        asksOnly(x, "minutes", 5, () -> x.soonest(NONE));
        asksOnly(x, "2", 2, () -> x.soonest(0));
        asksOnly(x, "1", 1, () -> x.soonest(1));
        asksOnly(x, "0", 0, () -> x.soonest(2));
    }

    /** AGE and LOAD of six by whose courtesies but one order takes 11 MINUTES: as they stand here. */
    private static final int[][] SIX = {{3, 7}, {1, 5}, {2, 3}, {0, 5}, {3, 0}, {1, 0}};

    private static void onlyOrder(int... order) {
        AfterYou x = new AfterYou();
        for (int person = 0; person < 6; person++) {
            for (int i = 0; i < 6; i++) {
                if (order[i] == person) {
                    x.person(0, SIX[i][0], SIX[i][1], 0);
                }
            }
        }
        queue(write(x, "younger 3;again unladen 3;first;"), 0, 1, 2, 3, 4, 5);
        due("minutes", x.soonest(NONE), 11);
        for (int i = 0; i < 6; i++) {
            due("of " + java.util.Arrays.toString(order) + " the " + i + "-th", x.soonest(i), order[i]);
        }
    }

    static void p15_theFirstOfAllOrdersOfSix() {
        onlyOrder(0, 1, 2, 3, 4, 5);
    }

    static void p15_theLastOfAllOrdersOfSix() {
        onlyOrder(5, 4, 3, 2, 1, 0);
    }

    static void p15_eachOfAllOrdersOfSix() {
        int orders = 0;
        for (int code = 0; code < 46656; code++) {
            int[] order = new int[6];
            int seen = 0;
            for (int i = 0, rest = code; i < 6; i++, rest /= 6) {
                order[i] = rest % 6;
                seen |= 1 << order[i];
            }
            if (seen == 63) {
                onlyOrder(order);
                orders++;
            }
        }
        due("orders", orders, 720);
    }

    static void p15_allShut() {
        AfterYou x = queue(plain(1, 2), 0, 1);
        no(x, "minutes", FAR_NO, () -> x.soonest(NONE));
        no(x, "the first", FAR_NO, () -> x.soonest(0));
        no(x, "not so many", FAR_NO, () -> x.soonest(2));
    }

    static void p15_allOfSixShut() {
        AfterYou x = queue(write(plain(1, 1, 1, 1, 1, 1), "older;"), 0, 1, 2, 3, 4, 5);
        no(x, "minutes", FAR_NO, () -> x.soonest(NONE));
    }

    static void p15_notAllShut() {
        AfterYou x = queue(write(plain(10, 10, 5), "older;"), 0, 1, 2);
        asksOnly(x, "shut as they come", NONE, () -> x.through(NONE));
        asksOnly(x, "minutes", 5, () -> x.soonest(NONE));
        asksOnly(x, "0", 0, () -> x.soonest(0));
        asksOnly(x, "2 between", 2, () -> x.soonest(1));
        asksOnly(x, "1", 1, () -> x.soonest(2));
    }

    static void p15_iLowest() {
        AfterYou x = queue(plain(1), 0);
        asksOnly(x, "-1", 1, () -> x.soonest(-1));
        bad(x, "-2", FAR_BAD, () -> x.soonest(-2));
        bad(x, "lowest of all", FAR_BAD, () -> x.soonest(LOW));
    }

    static void p15_badAheadOfNo() {
        AfterYou x = queue(write(eight(), "x"), 0, 1, 2, 3, 4, 5, 6);
        bad(x, "a fault", FAR_BAD, () -> x.soonest(-2));
        no(x, "a fault", FAR_NO, () -> x.soonest(NONE));
        x.clear();
        bad(x, "seven", FAR_BAD, () -> x.soonest(-2));
        no(x, "seven", FAR_NO, () -> x.soonest(BIG));
        x.disperse();
        queue(x, 0, 1);
        bad(x, "all shut", FAR_BAD, () -> x.soonest(-2));
        no(x, "all shut", FAR_NO, () -> x.soonest(BIG));
    }

    static void p15_theQueueStays() {
        AfterYou x = queue(write(plain(1, 2, 3), "second;"), 2, 0, 1);
        asksOnly(x, "soonest", 0, () -> x.soonest(0));
        asksOnly(x, "the queue is as it came", 0, () -> x.through(0));
        asksOnly(x, "who waits is who came first", 2, () -> x.through(2));
    }

    // ---- 16: avoid

    static void p16_nobodyIsInIt() {
        AfterYou x = write(plain(1, 2), "first;");
        asksOnly(x, "nobody", NONE, x::avoid);
        queue(x, 0);
        x.disperse();
        asksOnly(x, "nobody any more", NONE, x::avoid);
    }

    static void p16_oneAlone() {
        AfterYou x = queue(plain(1, 2), 1);
        asksOnly(x, "he", 1, x::avoid);
    }

    static void p16_ofTwoTheFirst() {
        AfterYou x = queue(plain(1, 2), 1, 0);
        asksOnly(x, "one is left, either way", 1, x::avoid);
    }

    static void p16_ofLikeOnesTheFirstInTheQueue() {
        AfterYou x = queue(write(eight(), "first;"), 5, 7, 0, 1, 2, 3, 4, 6);
        asksOnly(x, "eight alike", 5, x::avoid);
    }

    static void p16_theLastOfEight() {
        AfterYou x = plain(10, 20, 30, 40, 50, 60, 70);
        x.person(0, 80, 9, 0);
        queue(write(x, "from 9 laden;again laden;older;"), 0, 1, 2, 3, 4, 5, 6, 7);
        asksOnly(x, "whoever talks with 7 needs nine rounds", 7, x::avoid);
    }

    static void p16_ofTwoAlikeTheOneAhead() {
        AfterYou x = write(plain(10, 20, 30, 40, 50, 60, 70, 71), "younger 2;from 2 younger;");
        queue(x, 0, 1, 2, 3, 4, 5, 7, 6);
        asksOnly(x, "7 and 6 need two rounds, 7 is ahead", 7, x::avoid);
        x.disperse();
        queue(x, 0, 1, 2, 3, 4, 5, 6, 7);
        asksOnly(x, "7 and 6 need two rounds, 6 is ahead", 6, x::avoid);
    }

    static void p16_onlyTheLastTwoShutIt() {
        AfterYou x = queue(write(plain(30, 20, 10, 10), "older;"), 0, 1, 2, 3);
        asksOnly(x, "2 and 3 never settle: without 2", 2, x::avoid);
    }

    static void p16_shutIs999() {
        AfterYou x = queue(write(plain(10, 10, 20), "from 9 older;"), 2, 0, 1);
        asksOnly(x, "without 2 it is shut, without 0 it takes long", 0, x::avoid);
    }

    static void p16_shutWithoutEach() {
        AfterYou x = queue(write(plain(1, 1, 1, 1), "older;"), 3, 1, 0, 2);
        asksOnly(x, "the first in it", 3, x::avoid);
    }

    static void p16_aFault() {
        AfterYou x = write(plain(1, 2), "x");
        no(x, "nobody is in it", NO, x::avoid);
        queue(x, 0, 1);
        no(x, "two are", NO, x::avoid);
    }
}
