/** The boundary cases that the document names of what is TRIED and of the odds: a method for each sentence. */
final class TriedBoundsTest {
    private static final int ASKER = 0, NOVELIST = 1, WIDOW = 2, POET = 3, SISTER = 4, BOY = 5;
    private static final int BAD = BlankRations.BAD, NONE = BlankRations.NONE;
    private static final int VAN = 0, LINES = 1, RUB = 2, SLIP = 3;

    private TriedBoundsTest() { }

    static void run() {
        wordsByNothing();
        wordsBySixty();
        wordsWereItNotHeld();
        getsByOneAndSixty();
        getsMoreThanNow();
        idleByNothingAndSixty();
        vanFrom0To9();
        vanForTheEndsOfV();
        vanForTheEndsOfN();
        kindOfSeveralTheLeast();
        kindForTheEndsOfN();
        thoughtFrom0();
        thoughtUpTo98();
        thoughtByNone();
        thoughtForTheEndsOfN();
        neededFirstAndLast();
        neededLessThanWithAll();
        neededForTheEndsOfN();
        fewestFromNobodyToAll();
        fewestOfSeveralTheLeast();
        fewestForTheEnds();
        packedOnTheEndsOfRoom();
        packedJustAndOneMore();
        packedWithoutThought();
        packedEightKinds();
        fitsFrom0To99();
        fitsAny();
        fitsNoNumbersAndForty();
        fitsAtTheEndsOfTheInts();
        oddsAtTheEnds();
        oddsTogetherAreOne();
        oddsWithoutADivisor();
        hopeAtTheEnds();
        theHardestIsTried();
    }

    private static void due(String call, long got, long want) {
        Check.due(call, got, want);
    }

    private static BlankRations withVan(int van) {
        BlankRations x = new BlankRations();
        x.set(VAN, van);
        return x;
    }

    /** WORDS by n (0 to 60): by 0 nothing is said yet. */
    private static void wordsByNothing() {
        BlankRations x = withVan(0);
        due("nobody, by 0", x.words(0), 0);
        due("nobody, by 60", x.words(60), 0);
        x.person(ASKER, 0, 4, 99);
        due("by 0", x.words(0), 0);
        due("by 1", x.words(1), 5);
    }

    private static void wordsBySixty() {
        BlankRations x = withVan(0);
        x.person(ASKER, 0, 4, 60);
        due("by 59", x.words(59), 295);
        due("by 60", x.words(60), 300);
        due("by 61", x.words(61), BAD);
        x.own(0, 59);
        due("one page less", x.words(60), 295);
        BlankRations most = withVan(9);
        most.set(LINES, 0);
        for (int i = 0; i < 8; i++) {
            most.person(POET, 99, 9, 99);
        }
        due("eight poets", most.words(60), 60 * 8 * 19);
    }

    /** How much all say (were it not held). */
    private static void wordsWereItNotHeld() {
        BlankRations x = withVan(0);
        x.set(RUB, 9);
        x.person(SISTER, 0, 9, 99);
        for (int i = 0; i < 17; i++) {
            x.own(0, 99);
            x.weeks(60);
        }
        x.own(0, 99);
        due("held", x.of(0, 5), 99999);
        due("words by 60", x.words(60), 6730);
        due("held as before", x.of(0, 5), 99999);
        due("vanFor", x.vanFor(20, 2000), 0);
        x.prove(0, 1);
        due("a row", x.row(0, 2), 117);
    }

    /** GETS of one: behind the fewest WEEKS (0 to 60). NONE: not by then. */
    private static void getsByOneAndSixty() {
        BlankRations x = withVan(1);
        x.person(ASKER, 8, 0, 0);
        due("in one week", x.gets(0), 1);
        x.thought(0, 7);
        due("in two", x.gets(0), 2);
        // a boy, always further above, takes one page a week until he has 99
        for (int pages = 38; pages <= 42; pages++) {
            BlankRations y = withVan(1);
            y.person(BOY, 99, 9, pages);
            y.person(ASKER, 99, 0, 0);
            due("behind a boy with " + pages, y.gets(1), pages < 40 ? NONE : 100 - pages);
        }
        BlankRations z = withVan(1);
        z.person(ASKER, 99, 0, 99);
        z.person(BOY, 99, 0, 99);
        due("with 99 pages, one of which goes in week 0", z.gets(0), 2);
        due("with 99 pages for ever", z.gets(1), NONE);
    }

    /** GOT is more than now first. */
    private static void getsMoreThanNow() {
        BlankRations x = withVan(1);
        x.person(ASKER, 8, 0, 0);
        x.weeks(1);
        due("it has got one", x.of(0, 4), 1);
        due("the next one", x.gets(0), 5);
        x.own(0, 9);
        due("pages don't count", x.gets(0), 5);
        due("it got none by that", x.of(0, 4), 1);
    }

    /** IDLE: behind the fewest (0 to 60) nobody has a page first. NONE: not by then. */
    private static void idleByNothingAndSixty() {
        BlankRations x = withVan(0);
        due("nobody is there", x.idle(), 0);
        for (int i = 0; i < 8; i++) {
            x.person(ASKER, 0, 0, 0);
        }
        due("nobody has one", x.idle(), 0);
        x.own(7, 1);
        due("the last one has one", x.idle(), 1);
        x.own(0, 59);
        due("59", x.idle(), 59);
        x.own(3, 60);
        due("60", x.idle(), 60);
        x.own(7, 61);
        due("61", x.idle(), NONE);
        x.own(7, 0);
        x.mind(0, BOY, 0);
        due("for ever", x.idle(), NONE);
    }

    /** VAN FOR n, v: the least VAN (0 to 9) with which WORDS by n are v or more. NONE: with none. */
    private static void vanFrom0To9() {
        BlankRations x = withVan(5);
        // poets with LINES 0: none needs more than another; each page is for one who has none
        x.set(LINES, 0);
        x.set(RUB, 0);
        for (int i = 0; i < 7; i++) {
            x.person(POET, 50, 9, 0);
        }
        x.person(SISTER, 92, 9, 0);
        // the sister is 78, 63, then 48 above; the poets 55: sister, sister, seven poets
        due("0 words", x.vanFor(1, 0), 0);
        due("1 word", x.vanFor(1, 1), 1);
        due("10 words", x.vanFor(1, 10), 1);
        due("11 words", x.vanFor(1, 11), 2);
        for (int i = 1; i <= 7; i++) {
            due("poet " + i + ", no more", x.vanFor(1, 11 + 19 * i), 2 + i);
            due("poet " + i + ", 1 more", x.vanFor(1, 12 + 19 * i), i == 7 ? NONE : 3 + i);
        }
        due("VAN is as it was", x.lawOf(VAN), 5);
    }

    private static void vanForTheEndsOfV() {
        BlankRations x = withVan(3);
        due("v 0 of nobody", x.vanFor(20, 0), 0);
        due("v 9999 of nobody", x.vanFor(20, 9999), NONE);
        x.set(RUB, 9);
        for (int i = 0; i < 8; i++) {
            x.person(SISTER, 0, 9, 99);
        }
        due("v 9999 without a van", x.vanFor(20, 9999), 0);
        due("v 10000", x.vanFor(20, 10000), BAD);
        due("v -1", x.vanFor(20, -1), BAD);
        Check.holds("they say more than that", x.words(20) > 10000);
    }

    private static void vanForTheEndsOfN() {
        BlankRations x = withVan(3);
        x.person(ASKER, 98, 0, 0);
        // 1 word a week; the twentieth page is there only by two pages in some week
        due("n 1", x.vanFor(1, 1), 1);
        due("n 1, 2 words", x.vanFor(1, 2), NONE);
        due("n 20, 13 words", x.vanFor(20, 13), 1);
        due("n 20, 14 words", x.vanFor(20, 14), NONE);
        due("n 0", x.vanFor(0, 0), BAD);
        due("n 21", x.vanFor(21, 0), BAD);
    }

    /** KIND FOR one, n: of several the least. */
    private static void kindOfSeveralTheLeast() {
        BlankRations x = withVan(0);
        for (int i = 0; i < 8; i++) {
            x.person(BOY, 0, 0, 0);
        }
        due("all are alike: the first one", x.kindFor(0, 20), ASKER);
        due("all are alike: the last one", x.kindFor(7, 20), ASKER);
        x.own(7, 1);
        x.set(RUB, 1);
        // in one week 1, 2, 2, 1, 2, 0
        due("novelist, widow, sister", x.kindFor(7, 1), NOVELIST);
        x.set(RUB, 2);
        due("widow, sister", x.kindFor(7, 1), WIDOW);
        x.own(7, 2);
        due("sister", x.kindFor(7, 1), SISTER);
        due("its kind is as it was", x.of(7, 0), BOY);
    }

    private static void kindForTheEndsOfN() {
        BlankRations x = withVan(0);
        x.set(RUB, 0);
        x.person(BOY, 0, 9, 2);
        // asker 10 and 10, novelist 20 and 20, widow 10 in weeks 0, 1, 2, 3, poet 19 and 19, sister 11 until week 3
        due("n 1", x.kindFor(0, 1), NOVELIST);
        due("n 3: 40 and 33", x.kindFor(0, 3), NOVELIST);
        due("n 4: 40 and 44", x.kindFor(0, 4), SISTER);
        due("n 20", x.kindFor(0, 20), SISTER);
        due("n 0", x.kindFor(0, 0), BAD);
        due("n 21", x.kindFor(0, 21), BAD);
    }

    /** THOUGHT FOR one, n: the least THOUGHT (0 to 99) with which it has GOT a page within n WEEKS. */
    private static void thoughtFrom0() {
        BlankRations x = withVan(1);
        x.person(BOY, 50, 1, 0);
        due("3 of 3 at once", x.thoughtFor(0, 1), 0);
        x.mind(0, BOY, 0);
        due("2 of 3 at once", x.thoughtFor(0, 1), 1);
        due("within two", x.thoughtFor(0, 2), 0);
        due("its thought is as it was", x.of(0, 1), 50);
        x.weeks(2);
        Check.holds("it has got one", x.of(0, 4) > 0);
        due("another page is asked for", x.thoughtFor(0, 1), 1);
    }

    /** Each THINKS first: so 98 does what 99 does, and 98 is the most that can be the least. */
    private static void thoughtUpTo98() {
        BlankRations x = withVan(1);
        x.person(ASKER, 86, 0, 0);
        x.person(WIDOW, 0, 0, 0);
        due("the other one is 78 above", x.thoughtFor(1, 1), 98);
        x.thought(0, 87);
        due("79 above", x.thoughtFor(1, 1), NONE);
    }

    /** NONE: with none. */
    private static void thoughtByNone() {
        BlankRations x = withVan(0);
        x.person(BOY, 99, 9, 0);
        due("no van", x.thoughtFor(0, 20), NONE);
        x.set(VAN, 9);
        x.own(0, 99);
        due("99 pages", x.thoughtFor(0, 20), NONE);
        x.own(0, 98);
        due("98 pages", x.thoughtFor(0, 1), 0);
    }

    private static void thoughtForTheEndsOfN() {
        BlankRations x = withVan(1);
        x.person(WIDOW, 0, 0, 0);
        due("n 1", x.thoughtFor(0, 1), 19);
        due("n 19", x.thoughtFor(0, 19), 1);
        due("n 20", x.thoughtFor(0, 20), 0);
        due("n 0", x.thoughtFor(0, 0), BAD);
        due("n 21", x.thoughtFor(0, 21), BAD);
    }

    private static BlankRations eightAskers(int van, int hand) {
        BlankRations x = withVan(van);
        for (int i = 0; i < 8; i++) {
            x.person(ASKER, 10, hand, 0);
        }
        return x;
    }

    /** NEEDED by n: of several the least. */
    private static void neededFirstAndLast() {
        BlankRations x = eightAskers(9, 3);
        due("all alike: the first", x.needed(1), 0);
        x.mind(7, ASKER, 4);
        due("the last says more", x.needed(1), 7);
        x.mind(3, ASKER, 4);
        due("of two the least", x.needed(1), 3);
    }

    /** Less than with all. NONE: nobody is. */
    private static void neededLessThanWithAll() {
        due("nobody is there", new BlankRations().needed(1), NONE);
        BlankRations x = eightAskers(3, 3);
        due("another one takes its place", x.needed(1), NONE);
        x.mind(2, ASKER, 4);
        due("who takes its place says 1 less", x.needed(1), 2);
        x.mind(2, ASKER, 2);
        due("who takes a place says as much or more", x.needed(1), NONE);
        BlankRations y = eightAskers(0, 3);
        y.own(4, 9);
        due("nobody is given anything", y.needed(20), NONE);
    }

    private static void neededForTheEndsOfN() {
        BlankRations x = withVan(1);
        x.person(WIDOW, 1, 0, 0);
        due("n 1", x.needed(1), NONE);
        due("n 18", x.needed(18), NONE);
        due("n 19", x.needed(19), 0);
        x.thought(0, 0);
        due("n 19, one thought less", x.needed(19), NONE);
        due("n 20", x.needed(20), 0);
        due("n 0", x.needed(0), BAD);
        due("n 21", x.needed(21), BAD);
    }

    /** FEWEST for n, v: the set of fewest PEOPLE; NONE: by no set. */
    private static void fewestFromNobodyToAll() {
        BlankRations x = eightAskers(9, 3);
        due("0 words: nobody", x.fewest(1, 0), 0);
        for (int i = 0; i < 8; i++) {
            due(4 * i + 1 + " words", x.fewest(1, 4 * i + 1), (2 << i) - 1);
            due(4 * i + 4 + " words", x.fewest(1, 4 * i + 4), (2 << i) - 1);
        }
        due("33 words", x.fewest(1, 33), NONE);
        BlankRations y = new BlankRations();
        due("nobody is there: 0 words", y.fewest(10, 0), 0);
        due("nobody is there: 1 word", y.fewest(10, 1), NONE);
    }

    /** Of several the least: a set's bits are a number; fewer PEOPLE go before a lesser number. */
    private static void fewestOfSeveralTheLeast() {
        BlankRations x = eightAskers(9, 0);
        x.mind(7, ASKER, 3);
        due("1 word: the first", x.fewest(1, 1), 1);
        due("2 words: the last alone, not two", x.fewest(1, 2), 128);
        due("5 words: the last with the first", x.fewest(1, 5), 129);
        x.mind(6, ASKER, 3);
        due("2 words: of two the least", x.fewest(1, 2), 64);
        due("5 words: of many the least", x.fewest(1, 5), 65);
        due("6 words: both", x.fewest(1, 6), 192);
    }

    private static void fewestForTheEnds() {
        BlankRations x = withVan(1);
        x.person(ASKER, 98, 0, 0);
        due("n 1", x.fewest(1, 1), 1);
        due("n 1, 2 words", x.fewest(1, 2), NONE);
        due("n 10, 10 words", x.fewest(10, 10), 1);
        due("n 10, 11 words", x.fewest(10, 11), NONE);
        due("n 0", x.fewest(0, 0), BAD);
        due("n 11", x.fewest(11, 0), BAD);
        due("v -1", x.fewest(1, -1), BAD);
        due("v 10000", x.fewest(1, 10000), BAD);
        x.set(RUB, 9);
        for (int i = 1; i < 8; i++) {
            x.person(SISTER, 0, 9, 99);
        }
        Check.holds("less than 9999 by then", x.words(10) < 9999);
        due("v 9999", x.fewest(10, 9999), NONE);
        x.mind(0, SISTER, 9);
        x.own(0, 99);
        x.set(VAN, 0);
        due("all that they have", x.fewest(10, x.words(10)), 0);
    }

    /** PACKED on ROOM r (1 to 99). */
    private static void packedOnTheEndsOfRoom() {
        BlankRations x = new BlankRations();
        for (int i = 0; i < 8; i++) {
            x.person(BOY, 1, 0, 0);
        }
        due("r 0", x.packed(0), BAD);
        for (int r = 1; r <= 9; r++) {
            due("eight ones on " + r, x.packed(r), (8 + r - 1) / r);
        }
        due("r 99", x.packed(99), 1);
        due("r 100", x.packed(100), BAD);
        for (int i = 0; i < 8; i++) {
            x.thought(i, 99);
        }
        due("eight 99 on 99", x.packed(99), 8);
        due("eight 99 on 98", x.packed(98), NONE);
        x.thought(0, 98);
        x.thought(1, 1);
        due("98 and 1 on one", x.packed(99), 7);
        x.thought(1, 2);
        due("98 and 2 on two", x.packed(99), 8);
    }

    /** NONE: there is a THOUGHT above r; as much as r has room. */
    private static void packedJustAndOneMore() {
        for (int one = 0; one < 8; one++) {
            BlankRations x = new BlankRations();
            for (int i = 0; i < 8; i++) {
                x.person(BOY, i == one ? 40 : 0, 0, 0);
            }
            due("just r", x.packed(40), 1);
            due("one above r", x.packed(39), NONE);
        }
        BlankRations y = new BlankRations();
        y.person(BOY, 20, 0, 0);
        y.person(BOY, 20, 0, 0);
        due("both, just", y.packed(40), 1);
        due("both, one too much", y.packed(39), 2);
    }

    /** 0, if nobody has any. */
    private static void packedWithoutThought() {
        BlankRations x = new BlankRations();
        due("nobody", x.packed(1), 0);
        due("nobody", x.packed(99), 0);
        for (int i = 0; i < 8; i++) {
            x.person(BOY, 0, 0, 0);
            due("none has any", x.packed(1), 0);
            due("none has any", x.packed(99), 0);
        }
        x.thought(7, 1);
        due("the last has 1", x.packed(1), 1);
    }

    /** The fewest pages: neither the first room that comes nor the fullest page finds them here. */
    private static void packedEightKinds() {
        int[][] thoughts = {{4, 8, 1, 4, 2, 1, 0, 0}, {6, 5, 5, 4, 4, 3, 3, 0}, {7, 6, 5, 5, 4, 3, 0, 0},
            {3, 3, 3, 2, 2, 2, 0, 0}, {50, 50, 49, 49, 48, 48, 51, 51}, {99, 1, 98, 2, 97, 3, 96, 4}};
        int[] rooms = {10, 10, 10, 5, 99, 99};
        int[] pages = {2, 3, 3, 3, 4, 5};
        for (int i = 0; i < thoughts.length; i++) {
            BlankRations x = new BlankRations();
            BlankRations back = new BlankRations();
            for (int p = 0; p < 8; p++) {
                x.person(BOY, thoughts[i][p], 0, 0);
                back.person(BOY, thoughts[i][7 - p], 0, 0);
            }
            due("packing " + i, x.packed(rooms[i]), pages[i]);
            due("packing " + i + " from the other end", back.packed(rooms[i]), pages[i]);
        }
    }

    /** FITS: those THOUGHTS (0 to 99): the least and the most are tried. */
    private static void fitsFrom0To99() {
        BlankRations x = withVan(1);
        x.person(BOY, 50, 1, 98);
        x.person(ASKER, 99, 4, 0);
        x.sheet(0, 2, 1);
        // the boy is as far above as his THOUGHT, the asker 89: of equals the boy has it
        x.put(0, 0, 0);
        due("the boy has it from 89 on", x.fits(0, 0, 0), 11);
        due("the least is", x.fits(0, 0, 1), 89);
        x.put(0, 0, 5);
        due("the asker has it below", x.fits(0, 0, 0), 89);
        due("the least is", x.fits(0, 0, 1), 0);
        x.own(0, 99);
        due("the asker has it in any case", x.fits(0, 0, 0), 100);
        x.put(0, 0, 4);
        due("none", x.fits(0, 0, 0), 0);
        due("none", x.fits(0, 0, 1), NONE);
        x.own(0, 0);
        x.mind(0, WIDOW, 2);
        x.thought(1, 86);
        x.put(0, 0, 4);
        // the asker, 78 above, comes second of equals: the widow has it from 97 on
        due("97, 98, 99", x.fits(0, 0, 0), 3);
        due("97", x.fits(0, 0, 1), 97);
        x.thought(1, 87);
        due("98, 99", x.fits(0, 0, 0), 2);
        due("98", x.fits(0, 0, 1), 98);
    }

    /** -1: any; 0 and -2 aren't. */
    private static void fitsAny() {
        BlankRations x = withVan(0);
        x.person(ASKER, 0, 0, 2);
        x.sheet(1, 0, 3);
        int[][] numbers = {{1, 2, 2}, {-1, 2, 2}, {1, -1, 2}, {1, 2, -1}, {-1, -1, -1}, {0, 2, 2}, {1, 2, 3}, {1, 1, 0}, {1, 2, -2}};
        for (int i = 0; i < numbers.length; i++) {
            for (int k = 0; k < 3; k++) {
                x.put(1, k, numbers[i][k]);
            }
            due("numbers " + i, x.fits(1, 0, 0), i < 5 ? 100 : 0);
            due("numbers " + i + ": the least", x.fits(1, 0, 1), i < 5 ? 0 : NONE);
        }
    }

    /** A SHEET of no numbers asks nothing; one of forty asks WORDS by 1 to 40. */
    private static void fitsNoNumbersAndForty() {
        BlankRations x = withVan(0);
        x.person(ASKER, 0, 0, 99);
        for (int sort = 0; sort < 4; sort++) {
            x.sheet(3, sort, 0);
            due("no numbers", x.fits(3, 0, 0), 100);
            due("no numbers: the least", x.fits(3, 0, 1), 0);
            x.sheet(3, sort, 40);
            for (int i = 0; i < 40; i++) {
                x.put(3, i, i + 1);
            }
            due("forty numbers", x.fits(3, 0, 0), 100);
            x.put(3, 39, 41);
            due("the last isn't so", x.fits(3, 0, 0), 0);
            x.put(3, 39, 40);
            x.put(3, 0, 2);
            due("the first isn't so", x.fits(3, 0, 0), 0);
        }
    }

    private static void fitsAtTheEndsOfTheInts() {
        BlankRations x = withVan(0);
        x.person(ASKER, 0, 0, 0);
        for (int sort = 2; sort < 4; sort++) {
            x.sheet(0, sort, 1);
            x.put(0, 0, Integer.MIN_VALUE);
            due("the least int", x.fits(0, 0, 0), 0);
            x.put(0, 0, Integer.MAX_VALUE);
            due("the most int", x.fits(0, 0, 0), 0);
            x.put(0, 0, 0);
            due("0", x.fits(0, 0, 0), 100);
        }
    }

    private static void dueOdds(BlankRations x, int n, int k, long above, long below) {
        due("odds of " + k + " of " + n, x.odds(n, k, 0), above);
        due("odds of " + k + " of " + n + ": below", x.odds(n, k, 1), below);
    }

    /** ODDS by n (0 to 8), k (0 to n): SLIP 0 and SLIP 99, none and all. */
    private static void oddsAtTheEnds() {
        BlankRations x = new BlankRations();
        dueOdds(x, 0, 0, 1, 1);
        dueOdds(x, 1, 0, 4, 5);
        dueOdds(x, 1, 1, 1, 5);
        dueOdds(x, 8, 0, 65536, 390625);
        dueOdds(x, 8, 8, 1, 390625);
        x.set(SLIP, 0);
        for (int n = 0; n <= 8; n++) {
            dueOdds(x, n, 0, 1, 1);
            for (int k = 1; k <= n; k++) {
                dueOdds(x, n, k, 0, 1);
            }
        }
        x.set(SLIP, 99);
        dueOdds(x, 0, 0, 1, 1);
        dueOdds(x, 8, 0, 1, 10000000000000000L);
        dueOdds(x, 8, 8, 9227446944279201L, 10000000000000000L);
        dueOdds(x, 8, 7, 93206534790699L, 1250000000000000L);
        x.set(SLIP, 1);
        dueOdds(x, 8, 8, 1, 10000000000000000L);
        dueOdds(x, 8, 0, 9227446944279201L, 10000000000000000L);
    }

    /** The odds of none to all are 1 together, under every SLIP. */
    private static void oddsTogetherAreOne() {
        for (int slip = 0; slip <= 99; slip += 3) {
            BlankRations x = new BlankRations();
            x.set(SLIP, slip);
            for (int n = 0; n <= 8; n++) {
                long whole = 1;
                for (int i = 0; i < n; i++) {
                    whole *= 100;
                }
                long sum = 0;
                for (int k = 0; k <= n; k++) {
                    sum += whole / x.odds(n, k, 1) * x.odds(n, k, 0);
                }
                due("SLIP " + slip + ", " + n + " pages", sum, whole);
            }
        }
    }

    /** Without a common divisor, below above 0. */
    private static void oddsWithoutADivisor() {
        for (int slip = 0; slip <= 99; slip++) {
            BlankRations x = new BlankRations();
            x.set(SLIP, slip);
            for (int n = 0; n <= 8; n++) {
                for (int k = 0; k <= n; k += 1 + n / 3) {
                    long above = x.odds(n, k, 0);
                    long below = x.odds(n, k, 1);
                    boolean even = above % 2 == 0 && below % 2 == 0;
                    boolean fives = above % 5 == 0 && below % 5 == 0;
                    Check.holds("SLIP " + slip + ": " + k + " of " + n, below > 0 && above >= 0 && !even && !fives);
                }
            }
        }
    }

    private static void dueHope(BlankRations x, int n, long above, long below) {
        due("hope by " + n, x.hope(n, 0), above);
        due("hope by " + n + ": below", x.hope(n, 1), below);
    }

    /** HOPE by n (0 to 99); 0 is 0 by 1. */
    private static void hopeAtTheEnds() {
        BlankRations x = new BlankRations();
        dueHope(x, 0, 0, 1);
        dueHope(x, 1, 1, 5);
        dueHope(x, 5, 1, 1);
        dueHope(x, 99, 99, 5);
        x.set(SLIP, 0);
        dueHope(x, 0, 0, 1);
        dueHope(x, 99, 0, 1);
        x.set(SLIP, 99);
        dueHope(x, 0, 0, 1);
        dueHope(x, 1, 99, 100);
        dueHope(x, 99, 9801, 100);
        x.set(SLIP, 50);
        dueHope(x, 98, 49, 1);
        dueHope(x, 99, 99, 2);
        due("part -1", x.hope(1, -1), BAD);
        due("part 2", x.hope(1, 2), BAD);
        due("odds, part -1", x.odds(1, 1, -1), BAD);
        due("odds, part 2", x.odds(1, 1, 2), BAD);
    }

    /** What is TRIED of eight with everything at its most changes nothing. */
    private static void theHardestIsTried() {
        BlankRations x = withVan(9);
        x.set(LINES, 9);
        x.set(RUB, 9);
        for (int i = 0; i < 8; i++) {
            x.person(i % 6, 99, 9, 99);
        }
        x.sheet(0, 3, 40);
        for (int i = 0; i < 40; i++) {
            x.put(0, i, -1);
        }
        due("fits", x.fits(0, 7, 0), 100);
        x.words(60);
        x.vanFor(20, 9999);
        x.kindFor(7, 20);
        x.thoughtFor(7, 20);
        x.needed(20);
        x.fewest(10, 9999);
        x.packed(99);
        x.poor(30);
        x.idle();
        x.gets(7);
        x.prove(7, 10);
        due("right", x.judge(7), 0);
        for (int i = 0; i < 8; i++) {
            due("thought", x.of(i, 1), 99);
            due("pages", x.of(i, 3), 99);
            due("got", x.of(i, 4), 0);
            due("said", x.of(i, 5), 0);
        }
        due("week", x.state(0), 0);
        due("back", x.state(1), 0);
        due("z", x.seed(0), 1);
        due("van", x.lawOf(VAN), 9);
    }
}
