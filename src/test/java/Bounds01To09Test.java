/** The boundary cases of promises 1 to 9: a new object, people, a book. */
public final class Bounds01To09Test extends Checks {
    public static void main(String[] args) throws ReflectiveOperationException {
        runAll(Bounds01To09Test.class, 1, 9);
    }

    // ---- 1: a new object

    static void p01_nobodyIsThere() {
        AfterYou x = new AfterYou();
        for (int what = 0; what <= 3; what++) {
            due("count " + what, x.count(what), 0);
        }
        due("counts of person 0", x.counts(0, 0), BAD);
    }

    static void p01_noBookIsThere() {
        AfterYou x = new AfterYou();
        due("clear", x.clear(), 0);
        due("fault", x.fault(), NONE);
        due("item 0", x.item(0, 0), BAD);
    }

    static void p01_nothingWasRefused() {
        AfterYou x = new AfterYou();
        for (int what = 0; what <= 2; what++) {
            due("status " + what, x.status(what), 0);
        }
    }

    static void p01_theFractionIsZeroByOne() {
        AfterYou x = new AfterYou();
        due("above", x.part(0), 0);
        due("below", x.part(1), 1);
    }

    static void p01_nobodyWaitsNoLegsAreThere() {
        AfterYou x = new AfterYou();
        for (int a = 0; a < 6; a++) {
            due("waits at " + a, x.waits(a, NONE), NONE);
            for (int b = a + 1; b < 6; b++) {
                due("leg " + a + " " + b, x.leg(a, b, 0), 0);
            }
        }
    }

    static void p01_nothingIsOwedAtFirst() {
        AfterYou x = eight();
        for (int by = 0; by < 8; by++) {
            for (int to = 0; to < 8; to++) {
                if (by != to) {
                    due("owes " + by + " " + to, x.owes(by, to), 0);
                }
            }
        }
    }

    static void p01_nobodyWentFirstLastAtFirst() {
        AfterYou x = write(plain(10, 20), "turn;");
        due("talk", x.talk(0, 1, 0), NONE);
    }

    static void p01_noImageIsKept() {
        AfterYou x = new AfterYou();
        no(x, "from 0", NO, () -> x.from(0));
        no(x, "from 1", NO, () -> x.from(1));
    }

    static void p01_objectsShareNothing() {
        AfterYou x = write(eight(), "older;");
        x.meet(0, 1);
        x.image(0);
        AfterYou y = new AfterYou();
        due("people of the other one", y.count(0), 0);
        due("image of the other one", y.from(0), NO);
    }

    static void p01_theLastOf512Calls() {
        AfterYou x = new AfterYou();
        for (int call = 1; call <= 510; call++) {
            x.part(2);
        }
        due("call 511", x.person(0, 99, 9, 9), 0);
        due("call 512", x.status(0), 510);
    }

    // ---- 2: person

    static void p02_kindLowest() {
        AfterYou x = new AfterYou();
        taken(x, "kind 0", 0, () -> x.person(0, 1, 1, 1));
        bad(x, "kind -1", BAD, () -> x.person(-1, 1, 1, 1));
        bad(x, "kind lowest of all", BAD, () -> x.person(LOW, 1, 1, 1));
    }

    static void p02_kindHighest() {
        AfterYou x = new AfterYou();
        taken(x, "kind 5", 0, () -> x.person(5, 1, 1, 1));
        bad(x, "kind 6", BAD, () -> x.person(6, 1, 1, 1));
        bad(x, "kind highest of all", BAD, () -> x.person(BIG, 1, 1, 1));
    }

    static void p02_ageLowest() {
        AfterYou x = new AfterYou();
        taken(x, "age 0", 0, () -> x.person(0, 0, 1, 1));
        bad(x, "age -1", BAD, () -> x.person(0, -1, 1, 1));
        bad(x, "age lowest of all", BAD, () -> x.person(0, LOW, 1, 1));
        due("as told", x.counts(0, 0), 0);
    }

    static void p02_ageHighest() {
        AfterYou x = new AfterYou();
        taken(x, "age 99", 0, () -> x.person(0, 99, 1, 1));
        bad(x, "age 100", BAD, () -> x.person(0, 100, 1, 1));
        bad(x, "age highest of all", BAD, () -> x.person(0, BIG, 1, 1));
        due("as told", x.counts(0, 0), 99);
    }

    static void p02_ageOfAChildIsAskedToo() {
        AfterYou x = new AfterYou();
        bad(x, "age 100", BAD, () -> x.person(1, 100, 1, 1));
        bad(x, "age -1", BAD, () -> x.person(1, -1, 1, 1));
    }

    static void p02_loadLowest() {
        AfterYou x = new AfterYou();
        taken(x, "load 0", 0, () -> x.person(0, 1, 0, 1));
        bad(x, "load -1", BAD, () -> x.person(0, 1, -1, 1));
        bad(x, "load lowest of all", BAD, () -> x.person(0, 1, LOW, 1));
        due("as told", x.counts(0, 1), 0);
    }

    static void p02_loadHighest() {
        AfterYou x = new AfterYou();
        taken(x, "load 9", 0, () -> x.person(0, 1, 9, 1));
        bad(x, "load 10", BAD, () -> x.person(0, 1, 10, 1));
        bad(x, "load highest of all", BAD, () -> x.person(0, 1, BIG, 1));
        due("as told", x.counts(0, 1), 9);
    }

    static void p02_rankLowest() {
        AfterYou x = new AfterYou();
        taken(x, "rank 0", 0, () -> x.person(0, 1, 1, 0));
        bad(x, "rank -1", BAD, () -> x.person(0, 1, 1, -1));
        bad(x, "rank lowest of all", BAD, () -> x.person(0, 1, 1, LOW));
        due("as told", x.counts(0, 2), 0);
    }

    static void p02_rankHighest() {
        AfterYou x = new AfterYou();
        taken(x, "rank 9", 0, () -> x.person(0, 1, 1, 9));
        bad(x, "rank 10", BAD, () -> x.person(0, 1, 1, 10));
        bad(x, "rank highest of all", BAD, () -> x.person(0, 1, 1, BIG));
        due("as told", x.counts(0, 2), 9);
    }

    static void p02_theEighthIsTakenTheNinthIsFull() {
        AfterYou x = plain(1, 2, 3, 4, 5, 6, 7);
        taken(x, "the eighth", 7, () -> x.person(0, 8, 0, 0));
        full(x, "the ninth", () -> x.person(0, 9, 0, 0));
        full(x, "the ninth again", () -> x.person(5, 99, 9, 9));
        due("eight are there", x.count(0), 8);
        due("the eighth is as he was", x.counts(7, 0), 8);
    }

    static void p02_badAheadOfFull() {
        AfterYou x = eight();
        bad(x, "kind", BAD, () -> x.person(6, 0, 0, 0));
        bad(x, "age", BAD, () -> x.person(0, 100, 0, 0));
        bad(x, "load", BAD, () -> x.person(0, 0, 10, 0));
        bad(x, "rank", BAD, () -> x.person(0, 0, 0, 10));
    }

    static void p02_aRefusedOneGetsNoNumber() {
        AfterYou x = plain(1);
        bad(x, "bad", BAD, () -> x.person(0, 0, 0, 10));
        taken(x, "the next one", 1, () -> x.person(0, 2, 0, 0));
    }

    static void p02_roomAgainBehindAnImage() {
        AfterYou x = plain(1, 2, 3, 4, 5, 6, 7);
        x.image(0);
        x.person(0, 8, 0, 0);
        full(x, "the ninth", () -> x.person(0, 9, 0, 0));
        x.from(0);
        taken(x, "the eighth anew", 7, () -> x.person(0, 88, 0, 0));
        due("he is another one", x.counts(7, 0), 88);
    }

    // ---- 3: counts

    private static void counting(int kind, int told, int age, int load, int rank) {
        AfterYou x = new AfterYou();
        x.person(kind, told == 0 ? 0 : 99, told, told);
        asksOnly(x, "age", age, () -> x.counts(0, 0));
        asksOnly(x, "load", load, () -> x.counts(0, 1));
        asksOnly(x, "rank", rank, () -> x.counts(0, 2));
    }

    static void p03_plainLowestAndHighest() {
        counting(0, 0, 0, 0, 0);
        counting(0, 9, 99, 9, 9);
    }

    static void p03_childLowestAndHighest() {
        counting(1, 0, 0, 0, 0);
        counting(1, 9, 0, 9, 9);
    }

    static void p03_limpsLowestAndBeyondNine() {
        counting(2, 0, 0, 3, 0);
        counting(2, 9, 99, 12, 9);
    }

    static void p03_widowLowestAndBeyondNine() {
        counting(3, 0, 0, 3, 2);
        counting(3, 9, 99, 12, 11);
    }

    static void p03_mayorLowestAndBeyondNine() {
        counting(4, 0, 0, 0, 0);
        counting(4, 9, 99, 9, 18);
    }

    static void p03_bishopLowestAndBeyondNinetyNine() {
        counting(5, 0, 20, 0, 0);
        counting(5, 9, 119, 9, 18);
    }

    static void p03_personLowest() {
        AfterYou x = plain(10, 20);
        asksOnly(x, "person 0", 10, () -> x.counts(0, 0));
        bad(x, "person -1", BAD, () -> x.counts(-1, 0));
        bad(x, "person lowest of all", BAD, () -> x.counts(LOW, 0));
    }

    static void p03_personHighest() {
        AfterYou x = plain(10, 20);
        asksOnly(x, "person 1", 20, () -> x.counts(1, 0));
        bad(x, "person 2", BAD, () -> x.counts(2, 0));
        bad(x, "person highest of all", BAD, () -> x.counts(BIG, 0));
    }

    static void p03_personHighestOfEight() {
        AfterYou x = eight();
        asksOnly(x, "person 7", 80, () -> x.counts(7, 0));
        bad(x, "person 8", BAD, () -> x.counts(8, 0));
    }

    static void p03_whatLowest() {
        AfterYou x = new AfterYou();
        x.person(0, 10, 2, 3);
        asksOnly(x, "what 0", 10, () -> x.counts(0, 0));
        bad(x, "what -1", BAD, () -> x.counts(0, -1));
        bad(x, "what lowest of all", BAD, () -> x.counts(0, LOW));
    }

    static void p03_whatHighest() {
        AfterYou x = new AfterYou();
        x.person(0, 10, 2, 3);
        asksOnly(x, "what 2", 3, () -> x.counts(0, 2));
        bad(x, "what 3", BAD, () -> x.counts(0, 3));
        bad(x, "what highest of all", BAD, () -> x.counts(0, BIG));
    }

    static void p03_aFaultIsNothingToIt() {
        AfterYou x = write(plain(10), "x");
        asksOnly(x, "counts", 10, () -> x.counts(0, 0));
    }

    // ---- 4: owe

    static void p04_bowsLowest() {
        AfterYou x = plain(1, 2);
        x.owe(0, 1, 5);
        taken(x, "0 bows", 5, () -> x.owe(0, 1, 0));
        due("0 are owed", x.owes(0, 1), 0);
        bad(x, "-1 bows", BAD, () -> x.owe(0, 1, -1));
        bad(x, "bows lowest of all", BAD, () -> x.owe(0, 1, LOW));
    }

    static void p04_bowsHighest() {
        AfterYou x = plain(1, 2);
        taken(x, "99 bows", 0, () -> x.owe(0, 1, 99));
        due("99 are owed", x.owes(0, 1), 99);
        bad(x, "100 bows", BAD, () -> x.owe(0, 1, 100));
        bad(x, "bows highest of all", BAD, () -> x.owe(0, 1, BIG));
        taken(x, "99 they were", 99, () -> x.owe(0, 1, 98));
    }

    static void p04_alike() {
        AfterYou x = plain(1, 2);
        bad(x, "0 to 0", BAD, () -> x.owe(0, 0, 1));
        bad(x, "1 to 1, no bows", BAD, () -> x.owe(1, 1, 0));
    }

    static void p04_byLowestAndHighest() {
        AfterYou x = eight();
        taken(x, "by 0", 0, () -> x.owe(0, 3, 1));
        taken(x, "by 7", 0, () -> x.owe(7, 3, 1));
        bad(x, "by -1", BAD, () -> x.owe(-1, 3, 1));
        bad(x, "by 8", BAD, () -> x.owe(8, 3, 1));
        bad(x, "by lowest of all", BAD, () -> x.owe(LOW, 3, 1));
        bad(x, "by highest of all", BAD, () -> x.owe(BIG, 3, 1));
    }

    static void p04_toLowestAndHighest() {
        AfterYou x = eight();
        taken(x, "to 0", 0, () -> x.owe(3, 0, 1));
        taken(x, "to 7", 0, () -> x.owe(3, 7, 1));
        bad(x, "to -1", BAD, () -> x.owe(3, -1, 1));
        bad(x, "to 8", BAD, () -> x.owe(3, 8, 1));
        bad(x, "to lowest of all", BAD, () -> x.owe(3, LOW, 1));
        bad(x, "to highest of all", BAD, () -> x.owe(3, BIG, 1));
    }

    static void p04_notYetAPerson() {
        AfterYou x = plain(1, 2);
        bad(x, "to 2", BAD, () -> x.owe(0, 2, 1));
        bad(x, "by 2", BAD, () -> x.owe(2, 0, 1));
        x.person(0, 3, 0, 0);
        taken(x, "to 2, who came", 0, () -> x.owe(0, 2, 1));
    }

    static void p04_oneWayOnly() {
        AfterYou x = plain(1, 2);
        x.owe(0, 1, 99);
        due("the other way", x.owes(1, 0), 0);
    }

    static void p04_lastIsAsItWas() {
        AfterYou x = write(plain(1, 2), "turn;first;");
        x.owe(0, 1, 99);
        due("they never met", x.talk(0, 1, 2), 1);
    }

    static void p04_aFaultIsNothingToIt() {
        AfterYou x = write(plain(1, 2), "x");
        taken(x, "owe", 0, () -> x.owe(0, 1, 4));
        due("owes", x.owes(0, 1), 4);
    }

    // ---- 5: owes

    static void p05_lowestAndHighestBows() {
        AfterYou x = plain(1, 2);
        asksOnly(x, "0 at first", 0, () -> x.owes(0, 1));
        x.owe(0, 1, 99);
        asksOnly(x, "99", 99, () -> x.owes(0, 1));
    }

    static void p05_alike() {
        AfterYou x = plain(1, 2);
        bad(x, "0 to 0", BAD, () -> x.owes(0, 0));
        bad(x, "1 to 1", BAD, () -> x.owes(1, 1));
    }

    static void p05_byLowestAndHighest() {
        AfterYou x = eight();
        x.owe(0, 3, 5);
        x.owe(7, 3, 6);
        asksOnly(x, "by 0", 5, () -> x.owes(0, 3));
        asksOnly(x, "by 7", 6, () -> x.owes(7, 3));
        bad(x, "by -1", BAD, () -> x.owes(-1, 3));
        bad(x, "by 8", BAD, () -> x.owes(8, 3));
        bad(x, "by lowest of all", BAD, () -> x.owes(LOW, 3));
        bad(x, "by highest of all", BAD, () -> x.owes(BIG, 3));
    }

    static void p05_toLowestAndHighest() {
        AfterYou x = eight();
        x.owe(3, 0, 5);
        x.owe(3, 7, 6);
        asksOnly(x, "to 0", 5, () -> x.owes(3, 0));
        asksOnly(x, "to 7", 6, () -> x.owes(3, 7));
        bad(x, "to -1", BAD, () -> x.owes(3, -1));
        bad(x, "to 8", BAD, () -> x.owes(3, 8));
        bad(x, "to lowest of all", BAD, () -> x.owes(3, LOW));
        bad(x, "to highest of all", BAD, () -> x.owes(3, BIG));
    }

    static void p05_notYetAPerson() {
        AfterYou x = plain(1);
        bad(x, "to 1", BAD, () -> x.owes(0, 1));
        bad(x, "by 1", BAD, () -> x.owes(1, 0));
    }

    // ---- 6: type

    static void p06_nLowest() {
        AfterYou x = new AfterYou();
        taken(x, "1 byte", 1, () -> x.type(0x2121212121212120L, 1));
        bad(x, "0 bytes", BAD, () -> x.type(0x20, 0));
        bad(x, "-1 bytes", BAD, () -> x.type(0x20, -1));
        bad(x, "bytes lowest of all", BAD, () -> x.type(0x20, LOW));
        due("the lowest byte came", x.fault(), NONE);
    }

    static void p06_nHighest() {
        AfterYou x = new AfterYou();
        taken(x, "8 bytes", 8, () -> x.type(0x20_20_6f_6c_64_65_72_3bL, 8));
        bad(x, "9 bytes", BAD, () -> x.type(0x20, 9));
        bad(x, "bytes highest of all", BAD, () -> x.type(0x20, BIG));
        due("all eight came", x.item(0, 2), 0);
    }

    static void p06_theHighestOfThemComesFirst() {
        AfterYou x = new AfterYou();
        x.type(0x6f6c646572L, 5);
        x.type(0x3b20L, 2);
        due("older; and a blank", x.fault(), NONE);
    }

    static void p06_higherBytesThanNDoNotCome() {
        AfterYou x = new AfterYou();
        x.type(0xffffff_6f6c646572L, 5);
        x.type(0xffffffffffffff3bL, 1);
        due("older;", x.fault(), NONE);
        due("six bytes", x.count(1), 6);
    }

    static void p06_aNegativeNumberIsEightBytes() {
        AfterYou x = new AfterYou();
        due("8 bytes", x.type(-1L, 8), 8);
        due("8 bytes more", x.type(Long.MIN_VALUE, 8), 16);
        due("16 bytes", x.count(1), 16);
        due("255 begins no token", x.fault(), 0);
    }

    static void p06_eightMoreUpTo160() {
        AfterYou x = book(times(152, " "));
        taken(x, "the last eight", 160, () -> x.type(0x2020202020202020L, 8));
        full(x, "one more", () -> x.type(0x20, 1));
        full(x, "eight more", () -> x.type(0x20, 8));
    }

    static void p06_oneTooManyIsFull() {
        AfterYou x = book(times(153, " "));
        full(x, "eight at 153", () -> x.type(0x2020202020202020L, 8));
        due("none of them came", x.count(1), 153);
        taken(x, "seven at 153", 160, () -> x.type(0x20202020202020L, 7));
    }

    static void p06_theLastByte() {
        AfterYou x = book(times(159, " "));
        full(x, "two at 159", () -> x.type(0x2020, 2));
        taken(x, "one at 159", 160, () -> x.type(0x20, 1));
        full(x, "one at 160", () -> x.type(0x20, 1));
    }

    static void p06_badAheadOfFull() {
        AfterYou x = book(times(160, " "));
        bad(x, "0 bytes", BAD, () -> x.type(0x20, 0));
        bad(x, "9 bytes", BAD, () -> x.type(0x20, 9));
    }

    static void p06_aRefusedOneLeavesTheItems() {
        AfterYou x = book("older 7;" + times(152, " "));
        full(x, "one more", () -> x.type(';', 1));
        due("the item", x.item(0, 3), 7);
        bad(x, "none more", BAD, () -> x.type(';', 0));
        due("the item still", x.item(0, 3), 7);
    }

    // ---- 7: clear

    static void p07_empty() {
        AfterYou x = new AfterYou();
        taken(x, "empty", 0, x::clear);
        taken(x, "empty again", 0, x::clear);
    }

    static void p07_one() {
        AfterYou x = book(";");
        taken(x, "one byte", 1, x::clear);
        due("empty", x.count(1), 0);
    }

    static void p07_full() {
        AfterYou x = book(times(160, " "));
        taken(x, "160 bytes", 160, x::clear);
        taken(x, "none more", 0, x::clear);
        taken(x, "room again", 8, () -> x.type(0x2020202020202020L, 8));
    }

    static void p07_theFaultIsGone() {
        AfterYou x = book("x");
        due("fault", x.fault(), 0);
        x.clear();
        due("none", x.fault(), NONE);
    }

    static void p07_theItemsAreGone() {
        AfterYou x = write(plain(1, 2), "again first;first;");
        x.clear();
        due("no item", x.item(0, 0), BAD);
        due("nobody goes", x.talk(0, 1, 0), NONE);
        write(x, "first;");
        due("the new one is not again", x.item(0, 1), 0);
        due("somebody goes", x.talk(0, 1, 0), 0);
    }

    // ---- 8: fault

    private static void faulty(String text, int want) {
        AfterYou x = book(text);
        due("bytes of '" + text + "'", x.count(1), text.length());
        asksOnly(x, "fault of '" + text + "'", want, x::fault);
    }

    static void p08_emptyHasNone() {
        faulty("", NONE);
    }

    static void p08_blanksAloneHaveNone() {
        faulty(" ", NONE);
        faulty(times(160, " "), NONE);
    }

    static void p08_fullWithoutFault() {
        faulty("older;" + times(154, " "), NONE);
        faulty(times(154, " ") + "older;", NONE);
    }

    static void p08_fullEndsTooEarly() {
        faulty("older" + times(155, " "), 160);
        faulty(times(155, " ") + "older", 160);
    }

    static void p08_fullFaultAtTheLastByte() {
        faulty(times(159, " ") + ";", 159);
        faulty(times(153, " ") + "older;x", 159);
    }

    static void p08_endsTooEarlyBehindEachToken() {
        faulty("from", 4);
        faulty("from 1", 6);
        faulty("from 1 again", 12);
        faulty("from 1 again older", 18);
        faulty("from 1 again older 1", 20);
        faulty("from 1 again older 1;", NONE);
    }

    static void p08_endsTooEarlyInALaterItem() {
        faulty("older;again", 11);
        faulty("older;younger ", 14);
    }

    static void p08_aWordsBeginningIsNone() {
        faulty("olde", 0);
        faulty("o", 0);
        faulty("again olde", 6);
    }

    static void p08_aWordAndMoreIsNone() {
        faulty("olders;", 0);
        faulty("aolder;", 0);
        faulty("fromagain older;", 0);
        faulty("olderyounger;", 0);
    }

    static void p08_eachLetterOfAWordCounts() {
        faulty("blder;", 0);
        faulty("oldes;", 0);
        faulty("older;zgain older;", 6);
        faulty("older;agaim older;", 6);
    }

    static void p08_everyWordToTheLetter() {
        String[] ends = {"older;", "younger;", "laden;", "unladen;", "higher;", "lower;", "owed;", "turn;", "first;",
            "second;", "from 1 older;", "again older;"};
        for (String end : ends) {
            int size = end.replaceAll("[^a-z].*", "").length();
            String word = end.substring(0, size);
            String rest = end.substring(size);
            faulty(end, NONE);
            faulty("older;" + end, NONE);
            faulty(word.substring(1) + rest, 0);
            faulty(word.substring(0, size - 1) + rest, 0);
            for (int k = 0; k <= size; k++) {
                faulty(word.substring(0, k) + "x" + word.substring(k) + rest, 0);
                if (k < size) {
                    faulty(word.substring(0, k) + "x" + word.substring(k + 1) + rest, 0);
                }
            }
            faulty(word + "abcdefg" + rest, 0);
        }
    }

    static void p08_lowestAndHighestLetter() {
        faulty("oldera;", 0);
        faulty("olderz;", 0);
        faulty("zolder;", 0);
        faulty("older a;", 6);
        faulty("older z;", 6);
    }

    static void p08_theLongestWord() {
        faulty(times(160, "a"), 0);
        faulty("older;" + times(154, "z"), 6);
    }

    static void p08_nineItemsAreTaken() {
        faulty(times(9, "first;"), NONE);
        faulty(times(9, "first;") + " ", NONE);
    }

    static void p08_theTenthItemIsAFault() {
        faulty(times(10, "first;"), 54);
        faulty(times(9, "first;") + "  from 1 first;", 56);
        faulty(times(9, "first;") + "again", 54);
        faulty(times(9, "first;") + "5", 54);
        faulty(times(9, "first;") + ";", 54);
    }

    static void p08_numberLowest() {
        faulty("older 1;", NONE);
        faulty("older 0;", 6);
        faulty("older 01;", NONE);
        faulty("older 00;", 6);
    }

    static void p08_numberHighest() {
        faulty("older 99;", NONE);
        faulty("older 100;", 6);
        faulty("older 001;", 6);
        faulty("older " + times(154, "9"), 6);
    }

    static void p08_numberOfACourtesyThatDoesNotAskIt() {
        faulty("turn 99;first 1;second 50;", NONE);
        faulty("turn 0;", 5);
        faulty("first 100;", 6);
        faulty("second 0;", 7);
    }

    static void p08_roundLowest() {
        faulty("from 1 older;", NONE);
        faulty("from 0 older;", 5);
        faulty("from 01 older;", NONE);
        faulty("from 00 older;", 5);
    }

    static void p08_roundHighest() {
        faulty("from 9 older;", NONE);
        faulty("from 09 older;", NONE);
        faulty("from 10 older;", 5);
        faulty("from 99 older;", 5);
        faulty("from 009 older;", 5);
        faulty("from 100 older;", 5);
    }

    static void p08_aSecondNumber() {
        faulty("older 1 2;", 8);
        faulty("from 1 2 older;", 7);
        faulty("again 1 older;", 6);
        faulty("1 older;", 0);
    }

    static void p08_tokensOutOfPlace() {
        faulty(";", 0);
        faulty("older;;", 6);
        faulty("from;", 4);
        faulty("from from 1 older;", 5);
        faulty("from again older;", 5);
        faulty("from older;", 5);
        faulty("from 1;", 6);
        faulty("from 1 from 2 older;", 7);
        faulty("again;", 5);
        faulty("again again older;", 6);
        faulty("again from 1 older;", 6);
        faulty("older from 1;", 6);
        faulty("older again;", 6);
        faulty("older younger;", 6);
        faulty("older 1 younger;", 8);
        faulty("older 1 again;", 8);
        faulty("older 1 from;", 8);
    }

    static void p08_tokensNeedNoBlanks() {
        faulty("from1again older1;younger2;", NONE);
        faulty("from9older99;", NONE);
        faulty("older1x;", 6);
    }

    static void p08_blanksWhereverTheyStand() {
        faulty("  from  1  again  older  1  ;  ", NONE);
        faulty("older 1 ;", NONE);
    }

    static void p08_bytesBesideTheBlank() {
        faulty("older" + (char) 31 + ";", 5);
        faulty("older" + (char) 33 + ";", 5);
        faulty("older" + (char) 9 + ";", 5);
        faulty("older;" + (char) 10, 6);
        faulty("older" + (char) 160 + ";", 5);
    }

    static void p08_bytesBesideTheLetters() {
        faulty("`older;", 0);
        faulty("{older;", 0);
        faulty("older`;", 5);
        faulty("older{;", 5);
        faulty("OLDER;", 0);
        faulty("oldeR;", 0);
    }

    static void p08_bytesBesideTheFigures() {
        faulty("older /;", 6);
        faulty("older :;", 6);
        faulty("older 1/;", 7);
        faulty("older 1:;", 7);
        faulty("older -1;", 6);
        faulty("older +1;", 6);
    }

    static void p08_bytesBesideTheSemicolon() {
        faulty("older:", 5);
        faulty("older<", 5);
        faulty("older" + (char) (';' + 128), 5);
    }

    static void p08_lowestAndHighestByte() {
        faulty("" + (char) 0, 0);
        faulty("" + (char) 255, 0);
        faulty("older;" + (char) 127, 6);
        faulty("older;" + (char) 128, 6);
        faulty((char) ('o' + 128) + "lder;", 0);
    }

    static void p08_theFirstFaultCounts() {
        faulty("x y", 0);
        faulty("older 0 x", 6);
        faulty("older 100", 6);
    }

    static void p08_itGoesWithWhatIsTyped() {
        AfterYou x = book("older 9");
        due("too early", x.fault(), 7);
        write(x, "9");
        due("still too early", x.fault(), 8);
        write(x, "9");
        due("a third figure", x.fault(), 6);
        write(x, ";");
        due("still the third figure's", x.fault(), 6);
    }

    static void p08_allThatGoesByTheBookIsRefused() {
        AfterYou x = queue(write(plain(1, 2), "older"), 0, 1);
        x.tell(0, 1, 0);
        no(x, "item", NO, () -> x.item(0, 0));
        no(x, "talk", NO, () -> x.talk(0, 1, 0));
        no(x, "meet", NO, () -> x.meet(0, 1));
        no(x, "through", FAR_NO, () -> x.through(NONE));
        no(x, "soonest", FAR_NO, () -> x.soonest(NONE));
        no(x, "avoid", NO, x::avoid);
        no(x, "way", FAR_NO, () -> x.way(0, 0, 1, NONE));
        no(x, "judge", NO, x::judge);
        no(x, "have", NO, () -> x.have(0, 1, true));
        no(x, "firsts", NO, () -> x.firsts(0));
        no(x, "strikes", NO, x::strikes);
    }

    static void p08_whatDoesNotGoByTheBookIsNot() {
        AfterYou x = write(plain(1, 2), "older");
        taken(x, "person", 2, () -> x.person(0, 3, 0, 0));
        taken(x, "come", 1, () -> x.come(0));
        taken(x, "waits", NONE, () -> x.waits(0, 0));
        taken(x, "leg", 0, () -> x.leg(0, 1, 1));
        taken(x, "tell", 0, () -> x.tell(0, 1, 0));
        taken(x, "learns", 0x102, x::learns);
        taken(x, "struck", 0, () -> x.struck(NONE, NONE));
        taken(x, "image", 1, () -> x.image(0));
        taken(x, "from", 1, () -> x.from(0));
        taken(x, "forget", 1, x::forget);
        taken(x, "disperse", 1, x::disperse);
        taken(x, "clear", 5, x::clear);
    }

    // ---- 9: item

    static void p09_itemLowest() {
        AfterYou x = book("from 2 again owed 3;");
        asksOnly(x, "item 0", 2, () -> x.item(0, 0));
        bad(x, "item -1", BAD, () -> x.item(-1, 0));
        bad(x, "item lowest of all", BAD, () -> x.item(LOW, 0));
    }

    static void p09_itemHighest() {
        AfterYou x = book(times(8, "first;") + "from 7 second;");
        asksOnly(x, "item 8", 7, () -> x.item(8, 0));
        bad(x, "item 9", BAD, () -> x.item(9, 0));
        bad(x, "item highest of all", BAD, () -> x.item(BIG, 0));
    }

    static void p09_whatLowest() {
        AfterYou x = book("from 2 again owed 3;");
        asksOnly(x, "what 0", 2, () -> x.item(0, 0));
        bad(x, "what -1", BAD, () -> x.item(0, -1));
        bad(x, "what lowest of all", BAD, () -> x.item(0, LOW));
    }

    static void p09_whatHighest() {
        AfterYou x = book("from 2 again owed 3;");
        asksOnly(x, "what 3", 3, () -> x.item(0, 3));
        bad(x, "what 4", BAD, () -> x.item(0, 4));
        bad(x, "what highest of all", BAD, () -> x.item(0, BIG));
    }

    static void p09_anEmptyBookHasNone() {
        AfterYou x = new AfterYou();
        bad(x, "item 0", BAD, () -> x.item(0, 0));
        bad(x, "item 8", BAD, () -> x.item(8, 0));
    }

    static void p09_thereIsNoneSuch() {
        AfterYou x = book("older;younger;");
        asksOnly(x, "item 1", 1, () -> x.item(1, 2));
        bad(x, "item 2", BAD, () -> x.item(2, 2));
        bad(x, "item 8", BAD, () -> x.item(8, 2));
    }

    static void p09_badAheadOfNo() {
        AfterYou x = book("older");
        bad(x, "item -1", BAD, () -> x.item(-1, 0));
        bad(x, "item 9", BAD, () -> x.item(9, 0));
        bad(x, "what -1", BAD, () -> x.item(0, -1));
        bad(x, "what 4", BAD, () -> x.item(8, 4));
    }

    static void p09_noAheadOfNoneSuch() {
        AfterYou x = book("older;younger");
        no(x, "an item that stands", NO, () -> x.item(0, 0));
        no(x, "an open one", NO, () -> x.item(1, 0));
        no(x, "item 8", NO, () -> x.item(8, 3));
    }

    static void p09_whatIsNotTold() {
        AfterYou x = book("lower;");
        asksOnly(x, "r", 1, () -> x.item(0, 0));
        asksOnly(x, "again", 0, () -> x.item(0, 1));
        asksOnly(x, "courtesy", 5, () -> x.item(0, 2));
        asksOnly(x, "n", 1, () -> x.item(0, 3));
    }

    static void p09_lowestAndHighestNumbers() {
        AfterYou x = book("from 1 older 1;from 9 again second 99;");
        asksOnly(x, "r 1", 1, () -> x.item(0, 0));
        asksOnly(x, "n 1", 1, () -> x.item(0, 3));
        asksOnly(x, "courtesy 0", 0, () -> x.item(0, 2));
        asksOnly(x, "r 9", 9, () -> x.item(1, 0));
        asksOnly(x, "again", 1, () -> x.item(1, 1));
        asksOnly(x, "courtesy 9", 9, () -> x.item(1, 2));
        asksOnly(x, "n 99", 99, () -> x.item(1, 3));
    }

    static void p09_numbersOfOneAndTwoFigures() {
        AfterYou x = book("older 9;older 10;older 09;from 09 older;");
        asksOnly(x, "9", 9, () -> x.item(0, 3));
        asksOnly(x, "10", 10, () -> x.item(1, 3));
        asksOnly(x, "09", 9, () -> x.item(2, 3));
        asksOnly(x, "from 09", 9, () -> x.item(3, 0));
    }

    static void p09_eachCourtesy() {
        String[] words = {"older", "younger", "laden", "unladen", "higher", "lower", "owed", "turn", "first",
            "second"};
        for (int courtesy = 0; courtesy < 10; courtesy++) {
            due(words[courtesy], book(words[courtesy] + ";").item(0, 2), courtesy);
        }
    }
}
