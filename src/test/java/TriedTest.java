/** Promises 18 to 29: what is tried, and the odds of slips. */
final class TriedTest {
    private static final int ASKER = 0, NOVELIST = 1, WIDOW = 2, POET = 3, SISTER = 4, BOY = 5;
    private static final int BAD = BlankRations.BAD, NONE = BlankRations.NONE;

    private TriedTest() { }

    static void run() {
        words();
        gets();
        idle();
        vanFor();
        kindFor();
        thoughtFor();
        needed();
        fewest();
        packed();
        fits();
        fitsTheSorts();
        odds();
        hope();
        nothingChanges();
    }

    private static void due(String call, long got, long want) {
        Check.due(call, got, want);
    }

    private static void words() {
        BlankRations x = new BlankRations();
        due("18: nobody", x.words(60), 0);
        due("18: below", x.words(-1), BAD);
        due("18: above", x.words(61), BAD);
        x.set(0, 0);
        x.person(ASKER, 0, 4, 3);
        x.person(NOVELIST, 0, 1, 1);
        due("18: by 0", x.words(0), 0);
        due("18: by 1", x.words(1), 9);
        due("18: by 2", x.words(2), 14);
        due("18: by 3", x.words(3), 19);
        due("18: by 60", x.words(60), 19);
        x.set(0, 1);
        // the novelist needs 12: one page in week 4 at 12; the asker 10: one in week 5 at 10
        due("18: by 4", x.words(4), 23);
        due("18: by 5", x.words(5), 28);
        due("18: the week is as it was", x.state(0), 0);
    }

    private static void gets() {
        BlankRations x = new BlankRations();
        due("19: nobody", x.gets(0), BAD);
        due("19: below", x.gets(-1), BAD);
        x.person(ASKER, 0, 0, 5);
        due("19: five weeks", x.gets(0), 5);
        x.thought(0, 8);
        due("19: one week", x.gets(0), 1);
        x.weeks(1);
        due("19: got is more than now", x.gets(0), 5);
        x.set(0, 0);
        due("19: no van", x.gets(0), NONE);
        x.set(0, 1);
        x.mind(0, WIDOW, 0);
        x.thought(0, 0);
        due("19: twenty weeks", x.gets(0), 20);
        due("19: above", x.gets(1), BAD);
        sixty();
    }

    /** A boy, always above the widow, takes every page until he has 99. */
    private static void sixty() {
        for (int more = 0; more < 2; more++) {
            BlankRations x = new BlankRations();
            x.set(0, 1);
            x.person(BOY, 99, 9, 99 - 59 - more);
            x.person(WIDOW, 19, 0, 0);
            due("19: within 60 at the most", x.gets(1), more == 0 ? 60 : NONE);
        }
    }

    private static void idle() {
        BlankRations x = new BlankRations();
        due("20: nobody", x.idle(), 0);
        x.set(0, 0);
        x.person(ASKER, 0, 0, 3);
        due("20: three", x.idle(), 3);
        x.own(0, 60);
        due("20: sixty", x.idle(), 60);
        x.own(0, 61);
        due("20: not by then", x.idle(), NONE);
        x.own(0, 0);
        due("20: now", x.idle(), 0);
        x.person(BOY, 0, 0, 1);
        due("20: never", x.idle(), NONE);
        x.own(1, 0);
        x.person(WIDOW, 0, 0, 2);
        due("20: in weeks 1 and 3", x.idle(), 4);
        x.set(0, 3);
        x.mind(1, ASKER, 0);
        due("20: before the next page", x.idle(), 4);
    }

    private static void vanFor() {
        BlankRations x = new BlankRations();
        due("21: nobody says 0", x.vanFor(1, 0), 0);
        due("21: nobody says 1", x.vanFor(20, 1), NONE);
        due("21: n below", x.vanFor(0, 0), BAD);
        due("21: n above", x.vanFor(21, 0), BAD);
        due("21: v below", x.vanFor(1, -1), BAD);
        due("21: v above", x.vanFor(1, 10000), BAD);
        for (int i = 0; i < 8; i++) {
            x.person(ASKER, 10 + i, i, 0);
        }
        x.set(0, 5);
        // the keenest are the last ones: 8, 15, 21, 26, 30, 33, 35, 36 words
        due("21: 8", x.vanFor(1, 8), 1);
        due("21: 9", x.vanFor(1, 9), 2);
        due("21: 33", x.vanFor(1, 33), 6);
        due("21: 34", x.vanFor(1, 34), 7);
        due("21: 36", x.vanFor(1, 36), 8);
        due("21: 37", x.vanFor(1, 37), NONE);
        due("21: 9999", x.vanFor(20, 9999), NONE);
        due("21: the van is as it was", x.lawOf(0), 5);
        BlankRations y = new BlankRations();
        y.set(1, 0);
        y.person(POET, 99, 9, 0);
        // needs 1, says 19 a page, uses one a week: more pages do no more
        due("21: 20 weeks", y.vanFor(20, 380), 1);
        due("21: 20 weeks", y.vanFor(20, 381), NONE);
        // a sister's words are more by each page more: with 9 pages 10 and 8
        BlankRations z = new BlankRations();
        z.set(2, 9);
        z.person(SISTER, 99, 0, 0);
        due("21: six pages", z.vanFor(1, 15), 6);
        z.set(2, 0);
        z.thought(0, 99);
        due("21: just six", z.vanFor(1, 7), NONE);
        due("21: just six", z.vanFor(1, 6), 6);
        nine();
    }

    private static void nine() {
        BlankRations x = new BlankRations();
        x.set(1, 0);
        for (int i = 0; i < 8; i++) {
            x.person(POET, 50, 9, 0);
        }
        x.mind(0, SISTER, 0);
        x.thought(0, 98);
        // two to the sister (84 and 69 above), then one to each poet (55 above): 3 words and 19 of each
        due("21: all nine", x.vanFor(1, 136), 9);
        due("21: more than nine", x.vanFor(1, 137), NONE);
    }

    private static void kindFor() {
        BlankRations x = new BlankRations();
        due("22: nobody", x.kindFor(0, 1), BAD);
        x.set(0, 0);
        x.set(2, 0);
        x.person(BOY, 0, 0, 0);
        due("22: of all the least", x.kindFor(0, 20), ASKER);
        due("22: n below", x.kindFor(0, 0), BAD);
        due("22: n above", x.kindFor(0, 21), BAD);
        due("22: above", x.kindFor(1, 1), BAD);
        due("22: below", x.kindFor(-1, 1), BAD);
        x.own(0, 1);
        // 1, 2, 1, 1, 1, 0 words in one week; in 2: 1, 2, 2, 1, 2, 0; in 3: 1, 2, 2, 1, 3, 0
        due("22: novelist", x.kindFor(0, 1), NOVELIST);
        due("22: of three the least", x.kindFor(0, 2), NOVELIST);
        due("22: sister", x.kindFor(0, 3), SISTER);
        x.set(2, 1);
        // widow 2 and 2, sister 2 and 2: as much in two weeks, twice the novelist's
        due("22: widow", x.kindFor(0, 2), WIDOW);
        x.mind(0, SISTER, 9);
        due("22: by its hand", x.kindFor(0, 1), NOVELIST);
        x.set(0, 9);
        x.own(0, 0);
        x.thought(0, 0);
        due("22: poet alone has enough", x.kindFor(0, 1), POET);
        due("22: kind is as it was", x.of(0, 0), SISTER);
        due("22: hand is as it was", x.of(0, 2), 9);
    }

    private static void thoughtFor() {
        BlankRations x = new BlankRations();
        due("23: nobody", x.thoughtFor(0, 1), BAD);
        x.person(ASKER, 50, 0, 0);
        due("23: one", x.thoughtFor(0, 1), 8);
        due("23: two", x.thoughtFor(0, 2), 6);
        due("23: five", x.thoughtFor(0, 5), 0);
        due("23: twenty", x.thoughtFor(0, 20), 0);
        due("23: n below", x.thoughtFor(0, 0), BAD);
        due("23: n above", x.thoughtFor(0, 21), BAD);
        due("23: above", x.thoughtFor(1, 1), BAD);
        due("23: below", x.thoughtFor(-1, 1), BAD);
        x.weeks(1);
        due("23: another page", x.thoughtFor(0, 1), 8);
        due("23: thought is as it was", x.of(0, 1), 22);
        x.set(0, 1);
        x.person(ASKER, 99, 0, 0);
        due("23: against the other, of equals the least", x.thoughtFor(0, 1), 97);
        due("23: of equals not the last", x.thoughtFor(1, 1), 23);
        x.mind(1, BOY, 9);
        due("23: by no thought", x.thoughtFor(0, 1), NONE);
        x.mind(1, ASKER, 0);
        x.mind(0, BOY, 1);
        x.set(0, 0);
        due("23: without a van", x.thoughtFor(0, 20), NONE);
    }

    private static void needed() {
        BlankRations x = new BlankRations();
        due("24: nobody", x.needed(1), NONE);
        due("24: below", x.needed(0), BAD);
        due("24: above", x.needed(21), BAD);
        x.person(ASKER, 10, 4, 0);
        x.person(ASKER, 10, 6, 0);
        x.person(ASKER, 10, 6, 0);
        due("24: of several the least", x.needed(1), 1);
        x.set(0, 2);
        // without 0: 7 and 7; without 1: 5 and 7; with all: 5 and 7
        due("24: not less than with all", x.needed(1), NONE);
        x.thought(2, 20);
        // all: the third, then the first (of equals): 12; without the third: 12
        due("24: still not", x.needed(1), NONE);
        x.mind(2, ASKER, 9);
        due("24: the third", x.needed(1), 2);
        // all: 10 and 1; without the first: 1 and 7; without the third: 10
        x.mind(0, ASKER, 9);
        x.mind(2, ASKER, 0);
        x.thought(0, 20);
        due("24: the first", x.needed(1), 0);
        x.mind(0, ASKER, 4);
        x.mind(2, ASKER, 9);
        x.thought(0, 10);
        x.own(2, 1);
        due("24: without is: it is given nothing", x.needed(1), NONE);
        x.set(0, 0);
        due("24: nobody is given anything", x.needed(20), NONE);
    }

    private static void fewest() {
        BlankRations x = new BlankRations();
        due("25: nobody says 0", x.fewest(1, 0), 0);
        due("25: nobody says 1", x.fewest(1, 1), NONE);
        due("25: n below", x.fewest(0, 0), BAD);
        due("25: n above", x.fewest(11, 0), BAD);
        due("25: v below", x.fewest(1, -1), BAD);
        due("25: v above", x.fewest(1, 10000), BAD);
        int[] hands = {2, 4, 2, 5, 0, 9, 0, 4};
        for (int hand : hands) {
            x.person(ASKER, 10, hand, 0);
        }
        x.set(0, 9);
        // they say 3, 5, 3, 6, 1, 10, 1, 5
        due("25: 0", x.fewest(1, 0), 0);
        due("25: 1", x.fewest(1, 1), 1);
        due("25: 4", x.fewest(1, 4), 2);
        due("25: 6", x.fewest(1, 6), 8);
        due("25: 10", x.fewest(1, 10), 32);
        due("25: 11", x.fewest(1, 11), 2 + 8);
        due("25: 13", x.fewest(1, 13), 32 + 1);
        due("25: 16", x.fewest(1, 16), 32 + 8);
        due("25: 17", x.fewest(1, 17), 1 + 2 + 32);
        due("25: 34", x.fewest(1, 34), 255);
        due("25: 35", x.fewest(1, 35), NONE);
        due("25: 33", x.fewest(1, 33), 255 - 64);
        x.own(4, 1);
        due("25: pages that there are say on", x.fewest(1, 1), 0);
        BlankRations y = new BlankRations();
        y.person(BOY, 99, 9, 0);
        y.person(ASKER, 99, 1, 0);
        y.set(0, 1);
        due("25: others get nothing", y.fewest(10, 20), 2);
        due("25: of 10 weeks", y.fewest(10, 21), NONE);
    }

    private static void packed() {
        BlankRations x = new BlankRations();
        due("26: nobody", x.packed(1), 0);
        due("26: below", x.packed(0), BAD);
        due("26: above", x.packed(100), BAD);
        x.person(BOY, 0, 0, 0);
        due("26: no thought", x.packed(1), 0);
        int[] thoughts = {6, 5, 5, 4, 3, 3, 2};
        for (int thought : thoughts) {
            x.person(BOY, thought, 0, 0);
        }
        due("26: above r", x.packed(5), NONE);
        due("26: 6", x.packed(6), 5);
        due("26: 7", x.packed(7), 5);
        due("26: 9", x.packed(9), 4);
        due("26: 10", x.packed(10), 3);
        due("26: 13", x.packed(13), 3);
        due("26: 14", x.packed(14), 2);
        due("26: 27", x.packed(27), 2);
        due("26: 28", x.packed(28), 1);
        due("26: 99", x.packed(99), 1);
        // no page may be left with room: 44 22 17 and 24 24 21 8 6
        BlankRations y = new BlankRations();
        int[] hard = {44, 24, 24, 22, 21, 17, 8, 6};
        for (int thought : hard) {
            y.person(BOY, thought, 0, 0);
        }
        due("26: 60", y.packed(60), 3);
        due("26: 82", y.packed(82), 3);
        due("26: 83", y.packed(83), 2);
        BlankRations z = new BlankRations();
        for (int i = 0; i < 8; i++) {
            z.person(BOY, 99, 0, 0);
        }
        due("26: eight", z.packed(99), 8);
        due("26: all above", z.packed(98), NONE);
        z.thought(7, 1);
        z.thought(0, 98);
        due("26: 98 and 1", z.packed(99), 7);
        BlankRations one = new BlankRations();
        one.person(BOY, 40, 0, 0);
        due("26: just room", one.packed(40), 1);
        due("26: the first above", one.packed(39), NONE);
    }

    private static void fits() {
        BlankRations x = new BlankRations();
        x.person(ASKER, 8, 3, 0);
        x.sheet(0, 2, 0);
        due("27: no sheet above", x.fits(4, 0, 0), BAD);
        due("27: no sheet below", x.fits(-1, 0, 0), BAD);
        due("27: no one above", x.fits(0, 1, 0), BAD);
        due("27: no one below", x.fits(0, -1, 0), BAD);
        due("27: no what above", x.fits(0, 0, 2), BAD);
        due("27: no what below", x.fits(0, 0, -1), BAD);
        due("27: missing", x.fits(1, 0, 0), -11);
        due("27: BAD goes before -11", x.fits(1, 0, 2), BAD);
        due("27: BAD goes before -11", x.fits(1, 1, 0), BAD);
        due("27: all", x.fits(0, 0, 0), 100);
        due("27: from 0", x.fits(0, 0, 1), 0);
        x.sheet(0, 2, 2);
        // by 1: 4 from 8 on; by 2: 8 from 16 on (three pages: at once from 18), else 4
        x.put(0, 0, 0);
        x.put(0, 1, 4);
        due("27: 0, 4", x.fits(0, 0, 0), 2);
        due("27: 0, 4", x.fits(0, 0, 1), 6);
        x.put(0, 1, -1);
        due("27: 0, any", x.fits(0, 0, 0), 8);
        due("27: 0, any", x.fits(0, 0, 1), 0);
        x.put(0, 0, -1);
        x.put(0, 1, 8);
        due("27: any, 8", x.fits(0, 0, 0), 84);
        due("27: any, 8", x.fits(0, 0, 1), 16);
        x.put(0, 0, -2);
        due("27: -2 isn't any", x.fits(0, 0, 0), 0);
        due("27: none", x.fits(0, 0, 1), NONE);
        x.put(0, 0, 4);
        x.put(0, 1, 4);
        due("27: what all have said by then", x.fits(0, 0, 0), 8);
        due("27: thought is as it was", x.of(0, 1), 8);
    }

    /** A SHEET of any sort tells its numbers as they are: 255 as a byte is -1. */
    private static void fitsTheSorts() {
        BlankRations x = new BlankRations();
        x.set(0, 0);
        x.person(BOY, 0, 0, 0);
        for (int sort = 0; sort < 4; sort++) {
            x.sheet(sort, sort, 40);
            due("27: sort " + sort, x.fits(sort, 0, 0), 100);
            x.put(sort, 39, 255);
            due("27: sort " + sort, x.fits(sort, 0, 0), sort == 0 ? 100 : 0);
            x.put(sort, 39, 65535);
            due("27: sort " + sort, x.fits(sort, 0, 0), sort <= 1 ? 100 : 0);
            x.put(sort, 39, 65536);
            due("27: sort " + sort, x.fits(sort, 0, 0), sort <= 1 ? 100 : 0);
            x.put(sort, 39, -1);
            due("27: sort " + sort, x.fits(sort, 0, 0), 100);
        }
    }

    private static void odds() {
        BlankRations x = new BlankRations();
        long[][] third = {{64, 125}, {48, 125}, {12, 125}, {1, 125}};
        for (int k = 0; k < 4; k++) {
            due("28: " + k + " of 3", x.odds(3, k, 0), third[k][0]);
            due("28: " + k + " of 3", x.odds(3, k, 1), third[k][1]);
        }
        due("28: of none", x.odds(0, 0, 0), 1);
        due("28: of none", x.odds(0, 0, 1), 1);
        due("28: n below", x.odds(-1, 0, 0), BAD);
        due("28: n above", x.odds(9, 0, 0), BAD);
        due("28: k below", x.odds(3, -1, 0), BAD);
        due("28: k above", x.odds(3, 4, 0), BAD);
        due("28: part below", x.odds(3, 0, -1), BAD);
        due("28: part above", x.odds(3, 0, 2), BAD);
        x.set(3, 99);
        due("28: 8 of 8", x.odds(8, 8, 0), 9227446944279201L);
        due("28: 8 of 8", x.odds(8, 8, 1), 10000000000000000L);
        due("28: 4 of 8", x.odds(8, 4, 0), 70L * 96059601 / 10);
        due("28: 4 of 8", x.odds(8, 4, 1), 1000000000000000L);
        x.set(3, 50);
        due("28: halves", x.odds(8, 4, 0), 35);
        due("28: halves", x.odds(8, 4, 1), 128);
        x.set(3, 0);
        due("28: no slips", x.odds(8, 0, 0), 1);
        due("28: no slips", x.odds(8, 0, 1), 1);
        due("28: 0", x.odds(8, 3, 0), 0);
        due("28: by 1", x.odds(8, 3, 1), 1);
    }

    private static void hope() {
        BlankRations x = new BlankRations();
        due("29: 5", x.hope(5, 0), 1);
        due("29: 5", x.hope(5, 1), 1);
        due("29: 99", x.hope(99, 0), 99);
        due("29: 99", x.hope(99, 1), 5);
        due("29: of none", x.hope(0, 0), 0);
        due("29: of none", x.hope(0, 1), 1);
        due("29: below", x.hope(-1, 0), BAD);
        due("29: above", x.hope(100, 0), BAD);
        due("29: part below", x.hope(1, -1), BAD);
        due("29: part above", x.hope(1, 2), BAD);
        x.set(3, 99);
        due("29: 9801 by 100", x.hope(99, 0), 9801);
        due("29: 9801 by 100", x.hope(99, 1), 100);
    }

    private static void nothingChanges() {
        BlankRations x = new BlankRations();
        x.person(NOVELIST, 30, 5, 1);
        x.person(SISTER, 30, 5, 1);
        x.sheet(0, 2, 5);
        x.seed(9);
        x.words(60);
        x.gets(0);
        x.idle();
        x.vanFor(20, 9999);
        x.kindFor(0, 20);
        x.thoughtFor(0, 20);
        x.needed(20);
        x.fewest(10, 9999);
        x.packed(40);
        x.fits(0, 0, 0);
        x.poor(30);
        x.prove(0, 10);
        x.judge(0);
        int[][] want = {{NOVELIST, 30, 5, 1, 0, 0}, {SISTER, 30, 5, 1, 0, 0}};
        for (int p = 0; p < 2; p++) {
            for (int what = 0; what < 6; what++) {
                due("tried: of(" + p + ", " + what + ")", x.of(p, what), want[p][what]);
            }
        }
        due("tried: week", x.state(0), 0);
        due("tried: back", x.state(1), 0);
        due("tried: van", x.lawOf(0), 3);
        due("tried: z", x.seed(9), 9);
        due("tried: nothing is kept", x.again(), NONE);
    }
}
