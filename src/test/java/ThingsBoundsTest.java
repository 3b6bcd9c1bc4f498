/** The boundary cases that the document names of ROWS, ACTS, SHEETS, SHELVES and what is kept: a method for each sentence. */
final class ThingsBoundsTest {
    private static final int ASKER = 0, NOVELIST = 1, WIDOW = 2, POET = 3, SISTER = 4, BOY = 5;
    private static final int BAD = BlankRations.BAD, FULL = BlankRations.FULL, NONE = BlankRations.NONE;
    private static final int MIN = Integer.MIN_VALUE, MAX = Integer.MAX_VALUE;
    private static final int THINKS = 0, ASKS = 1, PARTS = 2, WRITES = 3;

    private ThingsBoundsTest() { }

    static void run() {
        rowsFromOneToTen();
        rowsFirstAndLast();
        fewerRowsThenBefore();
        alteredToTheEndsOfTheInts();
        judgeFirstAndLast();
        judgeWithoutRows();
        judgeFromNow();
        mindsHeld();
        mindsOfNone();
        mindsFirstAndLast();
        sheetsFromNoneToForty();
        sheetsAreAll0();
        putNarrows();
        itemAsLowAsARefusal();
        shelvesFirstAndLast();
        shelfOfNobody();
        shelfOfAMissingSheet();
        takenByNoneUnderIt();
        takenRows();
        thinksWraps();
        asksWraps();
        partsIsCut();
        partsWraps();
        writesWraps();
        partedByNothing();
        noActNoTrace();
        everyBody();
        theLongestTrace();
        manyAtTheEnds();
        nothingIsKept();
        keptLatest();
        keptIsACopy();
        keptNobody();
        notKept();
    }

    private static void due(String call, long got, long want) {
        Check.due(call, got, want);
    }

    private static void dueTrace(String call, BlankRations x, int... bodies) {
        due(call + ": bodies", x.many(6), bodies.length);
        for (int i = 0; i < bodies.length; i++) {
            due(call + ": body " + i, x.trace(i), bodies[i]);
        }
        due(call + ": one beyond", x.trace(bodies.length), NONE);
        due(call + ": one before", x.trace(-1), NONE);
    }

    /** An asker with one page and HAND 4, who has 8 and says 5 in week 0, then gets nothing for some weeks. */
    private static BlankRations one() {
        BlankRations x = new BlankRations();
        x.person(ASKER, 6, 4, 1);
        x.set(0, 0);
        return x;
    }

    // ---- rows

    /** ROWS of one by n WEEKS (1 to 10): how many. */
    private static void rowsFromOneToTen() {
        for (int n = 1; n <= 10; n++) {
            BlankRations x = one();
            due("prove(0, " + n + ")", x.prove(0, n), n);
            due("rows", x.many(4), n);
            due("the last one's thought", x.row(n - 1, 0), 6 + 2 * n);
            due("one beyond", x.row(n, 0), -9);
        }
        BlankRations x = one();
        due("none", x.prove(0, 0), BAD);
        due("eleven", x.prove(0, 11), BAD);
        due("rows", x.many(4), 0);
    }

    /** (THOUGHT, PAGES, what all said in that WEEK) behind 1, 2, .. n WEEKS. -9: there is none such, another what. */
    private static void rowsFirstAndLast() {
        BlankRations x = one();
        due("no row", x.row(0, 0), -9);
        x.prove(0, 10);
        int[] first = {8, 0, 5};
        int[] last = {26, 0, 0};
        for (int what = 0; what < 3; what++) {
            due("the first: " + what, x.row(0, what), first[what]);
            due("the last: " + what, x.row(9, what), last[what]);
            due("one beyond: " + what, x.row(10, what), -9);
            due("one before: " + what, x.row(-1, what), -9);
        }
        due("another what", x.row(0, 3), -9);
        due("another what", x.row(0, -1), -9);
        due("another what of the last", x.row(9, 3), -9);
        due("nothing passed", x.state(0), 0);
    }

    private static void fewerRowsThenBefore() {
        BlankRations x = one();
        x.prove(0, 10);
        x.prove(0, 1);
        due("rows", x.many(4), 1);
        due("the only one", x.row(0, 0), 8);
        due("the second", x.row(1, 0), -9);
        due("can't be altered", x.alterRow(1, 0, 3), -9);
        x.prove(0, 2);
        due("the second anew", x.row(1, 0), 10);
    }

    /** It becomes v: what it was. -9 likewise (a row may be -9, too). */
    private static void alteredToTheEndsOfTheInts() {
        BlankRations x = one();
        due("no row", x.alterRow(0, 0, 1), -9);
        x.prove(0, 10);
        int[] values = {MIN, MAX, 0, -1, -9, 1000000};
        for (int what = 0; what < 3; what++) {
            int before = x.row(9, what);
            for (int v : values) {
                due("what it was", x.alterRow(9, what, v), before);
                due("it is", x.row(9, what), v);
                before = v;
            }
        }
        due("the one before", x.row(8, 0), 24);
        due("one beyond", x.alterRow(10, 0, 1), -9);
        due("one before", x.alterRow(-1, 0, 1), -9);
        due("another what", x.alterRow(9, 3, 1), -9);
        due("another what", x.alterRow(9, -1, 1), -9);
        due("rows", x.many(4), 10);
    }

    /** 0 all is right; else the first ROW that isn't, and 1 more. */
    private static void judgeFirstAndLast() {
        for (int i = 0; i < 10; i++) {
            for (int what = 0; what < 3; what++) {
                BlankRations x = one();
                x.prove(0, 10);
                due("right", x.judge(0), 0);
                int was = x.row(i, what);
                x.alterRow(i, what, was + 1);
                due("row " + i + ", " + what + ", 1 more", x.judge(0), i + 1);
                x.alterRow(i, what, was - 1);
                due("row " + i + ", " + what + ", 1 less", x.judge(0), i + 1);
                x.alterRow(9, what, MIN);
                due("and the last", x.judge(0), i + 1);
                x.alterRow(0, what, MAX);
                due("and the first", x.judge(0), 1);
            }
        }
    }

    /** Also if there are none. BAD. */
    private static void judgeWithoutRows() {
        BlankRations x = one();
        due("no rows", x.judge(0), 0);
        due("no such one", x.judge(1), BAD);
        due("no such one", x.judge(-1), BAD);
        x.prove(0, 1);
        due("no such one, rows", x.judge(1), BAD);
    }

    /** As those of one, from how it is now. */
    private static void judgeFromNow() {
        BlankRations x = one();
        x.person(ASKER, 6, 4, 1);
        x.person(ASKER, 6, 4, 0);
        x.person(ASKER, 7, 4, 1);
        x.prove(0, 10);
        due("another one who is alike", x.judge(1), 0);
        due("one with other pages, which it used by then", x.judge(2), 0);
        due("one with another thought", x.judge(3), 1);
        x.keep();
        x.weeks(1);
        due("a week later", x.judge(0), 1);
        x.again();
        due("as it was", x.judge(0), 0);
    }

    // ---- sheets

    private static BlankRations eightAskers() {
        BlankRations x = new BlankRations();
        for (int i = 0; i < 8; i++) {
            x.person(ASKER, 50, 0, 0);
        }
        return x;
    }

    /** THOUGHT (held to 0 to 99). */
    private static void mindsHeld() {
        BlankRations x = eightAskers();
        x.sheet(0, 0, 8);
        int[] bytes = {-128, -1, 0, 1, 98, 99, 100, 127};
        int[] want = {0, 0, 0, 1, 98, 99, 99, 99};
        for (int i = 0; i < 8; i++) {
            x.put(0, i, bytes[i]);
        }
        due("all eight", x.minds(0, 0, 0, 8), 8);
        for (int i = 0; i < 8; i++) {
            due("thought by " + bytes[i], x.of(i, 1), want[i]);
            due("the sheet is as it was", x.item(0, 0, i), bytes[i]);
        }
    }

    /** -12: i is not 0 to how many items there are (also for n 0). */
    private static void mindsOfNone() {
        BlankRations x = eightAskers();
        x.sheet(0, 0, 3);
        for (int i = 0; i <= 3; i++) {
            due("none from " + i, x.minds(0, i, 7, 0), 0);
        }
        due("none from 4", x.minds(0, 4, 7, 0), -12);
        due("none from -1", x.minds(0, -1, 7, 0), -12);
        x.sheet(0, 0, 0);
        due("none of none", x.minds(0, 0, 0, 0), 0);
        due("none of none from 1", x.minds(0, 1, 0, 0), -12);
        due("one of none", x.minds(0, 0, 0, 1), -12);
        due("none, no such one", x.minds(0, 0, 8, 0), BAD);
        for (int i = 0; i < 8; i++) {
            due("thought", x.of(i, 1), 50);
        }
    }

    /** From i on, from one on: n goes beyond the last one (BAD); there are not so many (-12). */
    private static void mindsFirstAndLast() {
        BlankRations x = eightAskers();
        x.sheet(3, 0, 40);
        for (int i = 0; i < 40; i++) {
            x.put(3, i, i);
        }
        due("the last item to the last one", x.minds(3, 39, 7, 1), 1);
        due("thought", x.of(7, 1), 39);
        due("one beyond the last one", x.minds(3, 39, 7, 2), BAD);
        due("the last eight", x.minds(3, 32, 0, 8), 8);
        due("thought", x.of(0, 1), 32);
        due("thought", x.of(7, 1), 39);
        due("one beyond the last item", x.minds(3, 33, 0, 8), -12);
        due("the first", x.minds(3, 0, 0, 1), 1);
        due("thought", x.of(0, 1), 0);
        due("the second stays", x.of(1, 1), 33);
        due("three to the last three", x.minds(3, 10, 5, 3), 3);
        due("thought", x.of(4, 1), 36);
        due("thought", x.of(5, 1), 10);
        due("thought", x.of(7, 1), 12);
        due("four to the last three", x.minds(3, 10, 5, 4), BAD);
        due("nine", x.minds(3, 0, 0, 9), BAD);
    }

    /** 40 at most. BAD: n above 40; -14: a size below 0. */
    private static void sheetsFromNoneToForty() {
        for (int sort = 0; sort < 4; sort++) {
            for (int n = 0; n <= 40; n += n == 0 || n == 39 ? 1 : 38) {
                BlankRations x = new BlankRations();
                due("sort " + sort + ", " + n, x.sheet(sort, sort, n), 1);
                due("one before", x.put(sort, -1, 1), -12);
                due("one beyond", x.put(sort, n, 1), -12);
                due("one before", x.item(sort, sort, -1), -12);
                due("one beyond", x.item(sort, sort, n), -12);
                due("the first", x.put(sort, 0, 7), n > 0 ? 1 : -12);
                due("the last", x.put(sort, n - 1, 8), n > 0 ? 1 : -12);
                due("the last", x.item(sort, sort, n - 1), n > 0 ? 8 : -12);
            }
            BlankRations x = new BlankRations();
            due("41", x.sheet(0, sort, 41), BAD);
            due("-1", x.sheet(0, sort, -1), -14);
            due("the most int", x.sheet(0, sort, MAX), BAD);
            due("the least int", x.sheet(0, sort, MIN), -14);
            due("it is missing", x.put(0, 0, 1), -11);
        }
    }

    /** A row of n of a sort, all 0, or missing (sort -1). */
    private static void sheetsAreAll0() {
        BlankRations x = new BlankRations();
        for (int sheet = 0; sheet < 4; sheet++) {
            due("missing at first", x.item(sheet, 0, 0), -11);
        }
        for (int sort = 0; sort < 4; sort++) {
            x.sheet(0, sort, 40);
            for (int i = 0; i < 40; i++) {
                due("item " + i, x.item(0, sort, i), 0);
                x.put(0, i, i + 1);
            }
        }
        x.sheet(0, 3, 2);
        x.sheet(0, 3, 40);
        due("what stood there is gone", x.item(0, 3, 39), 0);
        x.put(0, 39, 5);
        due("missing", x.sheet(0, -1, 40), 1);
        due("missing", x.item(0, 3, 39), -11);
        x.sheet(0, 3, 40);
        due("again, all 0", x.item(0, 3, 39), 0);
        due("sheets beside it", x.item(1, 3, 0), -11);
    }

    /** Item i becomes v, narrowed to its sort. */
    private static void putNarrows() {
        int[] values = {0, -1, 127, 128, -128, -129, 255, 256, 32767, 32768, -32768, -32769, 65535, 65536, MAX, MIN};
        int[] bytes = {0, -1, 127, -128, -128, 127, -1, 0, -1, 0, 0, -1, -1, 0, -1, 0};
        int[] shorts = {0, -1, 127, 128, -128, -129, 255, 256, 32767, -32768, -32768, 32767, -1, 0, -1, 0};
        BlankRations x = new BlankRations();
        for (int sort = 0; sort < 4; sort++) {
            x.sheet(sort, sort, 16);
            for (int i = 0; i < 16; i++) {
                int want = sort == 0 ? bytes[i] : sort == 1 ? shorts[i] : values[i];
                due("put " + values[i], x.put(sort, i, values[i]), 1);
                due(values[i] + " of sort " + sort, x.item(sort, sort, i), want);
            }
        }
    }

    /** (An item may be as low as these, too.) */
    private static void itemAsLowAsARefusal() {
        BlankRations x = new BlankRations();
        int[] low = {-1, -2, -3, -9, -11, -12, -13, -14, -15, -100};
        for (int sort = 0; sort < 4; sort++) {
            x.sheet(sort, sort, 10);
            for (int i = 0; i < 10; i++) {
                x.put(sort, i, low[i]);
                due("item", x.item(sort, sort, i), low[i]);
            }
        }
    }

    // ---- shelves

    /** SHELVES 0 to 3: each holds its own, nothing at first. */
    private static void shelvesFirstAndLast() {
        BlankRations x = eightAskers();
        for (int shelf = 0; shelf < 4; shelf++) {
            due("nothing at first", x.taken(shelf, 0), -11);
            due("nothing at first", x.taken(shelf, 10), -11);
            due("shelf " + shelf, x.shelf(shelf, 0, 7 - shelf), 1);
        }
        for (int shelf = 0; shelf < 4; shelf++) {
            due("its number", x.taken(shelf, 0), 7 - shelf);
        }
        due("shelf 4", x.shelf(4, 0, 0), BAD);
        due("shelf -1", x.shelf(-1, 0, 0), BAD);
        due("one and the same on two", x.shelf(3, 0, 7), 1);
        due("on the first", x.taken(0, 0), 7);
        due("on the last", x.taken(3, 0), 7);
    }

    /** By its number; nothing, if there is no such one at the time. */
    private static void shelfOfNobody() {
        BlankRations x = new BlankRations();
        due("nobody yet", x.shelf(0, 0, 0), BAD);
        x.person(POET, 0, 5, 0);
        x.keep();
        x.person(BOY, 0, 5, 0);
        x.shelf(0, 0, 0);
        x.shelf(1, 0, 1);
        due("one beyond", x.shelf(2, 0, 2), BAD);
        due("the boy", x.taken(1, BOY), 1);
        due("one stays", x.again(), 1);
        due("the first", x.taken(0, POET), 0);
        due("the second", x.taken(1, ASKER), -11);
        due("the second for a row", x.taken(1, 12), -11);
        due("the second's act", x.act(1, PARTS, 9), 0);
        due("it can't be put there", x.shelf(2, 0, 1), BAD);
        x.person(SISTER, 0, 5, 0);
        due("another one of that number", x.taken(1, SISTER), 1);
        due("isn't the boy", x.taken(1, BOY), -13);
        x.post();
        due("nobody", x.taken(0, ASKER), -11);
        due("no act", x.act(0, THINKS, 9), 0);
    }

    /** The row of SHEET n (1; nothing, if missing). */
    private static void shelfOfAMissingSheet() {
        BlankRations x = eightAskers();
        for (int sheet = 0; sheet < 4; sheet++) {
            x.shelf(sheet, 0, 2);
            due("a missing one", x.shelf(sheet, 1, sheet), 1);
            due("nothing", x.taken(sheet, 10 + sheet), -11);
            due("nothing", x.taken(sheet, 0), -11);
            x.sheet(sheet, sheet, sheet);
            due("a later row isn't on it", x.taken(sheet, 10 + sheet), -11);
            due("its row", x.shelf(sheet, 1, sheet), 1);
            due("how many items", x.taken(sheet, 10 + sheet), sheet);
        }
        due("sheet 4", x.shelf(0, 1, 4), BAD);
        due("sheet -1", x.shelf(0, 1, -1), BAD);
        due("as before", x.taken(0, 10), 0);
    }

    /** Taken for a thing of KIND as (0 to 5, or one under it). */
    private static void takenByNoneUnderIt() {
        String[] under = {"0", "01", "02", "013", "024", "05"};
        BlankRations x = eightAskers();
        for (int kind = 0; kind < 6; kind++) {
            x.mind(7, kind, 0);
            x.shelf(3, 0, 7);
            for (int as = 0; as <= 13; as++) {
                int want = as < 6 ? (under[kind].indexOf('0' + as) >= 0 ? 7 : -13) : as < 10 ? BAD : -13;
                due("kind " + kind + " as " + as, x.taken(3, as), want);
            }
        }
    }

    /** For a row of sort as - 10 (as 10 to 13): how many items. */
    private static void takenRows() {
        for (int sort = 0; sort < 4; sort++) {
            int[] sizes = {0, 1, 39, 40};
            for (int n : sizes) {
                BlankRations x = eightAskers();
                x.sheet(sort, sort, n);
                x.shelf(0, 1, sort);
                for (int as = 0; as <= 13; as++) {
                    int want = as < 6 ? -13 : as < 10 ? BAD : as == 10 + sort ? n : -13;
                    due("a row of " + sort + " as " + as, x.taken(0, as), want);
                }
                due("no act", x.act(0, THINKS, 1), 0);
            }
        }
    }

    // ---- acts

    /** What one of a KIND does, whose number is n and whose HAND is a. */
    private static int acts(int kind, int n, int a, int act, int x) {
        BlankRations office = new BlankRations();
        for (int i = 0; i <= n; i++) {
            office.person(i == n ? kind : ASKER, 0, i == n ? a : 0, 0);
        }
        office.shelf(1, 0, n);
        return office.act(1, act, x);
    }

    /** With a number x (ints that wrap). */
    private static void thinksWraps() {
        due("x the most", acts(ASKER, 0, 0, THINKS, MAX), -4);
        due("x the most, n 7", acts(ASKER, 7, 0, THINKS, MAX), -11);
        due("x the least", acts(ASKER, 0, 0, THINKS, MIN), 0);
        due("just within", acts(ASKER, 0, 0, THINKS, 536870911), 2147483644);
        due("just beyond", acts(ASKER, 0, 0, THINKS, 536870912), MIN);
        due("below the least", acts(ASKER, 1, 0, THINKS, -536870912), MAX);
        due("0 less the least", acts(WIDOW, 0, 0, THINKS, 536870912), MIN);
        due("0 less one below it", acts(WIDOW, 1, 0, THINKS, 536870912), -MAX);
        due("and 2", acts(SISTER, 0, 0, THINKS, 536870912), MIN + 2);
        due("and 2 beyond the most", acts(SISTER, 1, 0, THINKS, -536870912), -MAX + 2);
        due("less the hand", acts(POET, 0, 1, THINKS, 536870912), MAX);
        due("less the hand", acts(POET, 0, 9, THINKS, -536870912), MAX - 8);
    }

    private static void asksWraps() {
        due("x the most", acts(ASKER, 0, 9, ASKS, MAX), 5);
        due("beyond the most", acts(ASKER, 1, 9, ASKS, -536870912), MIN + 8);
        due("thrice the least", acts(NOVELIST, 0, 0, ASKS, 536870912), MIN);
        due("thrice beyond", acts(NOVELIST, 0, 1, ASKS, 536870912), MIN + 3);
        due("thrice, x the most", acts(NOVELIST, 0, 0, ASKS, MAX), -12);
        due("poet, x the least", acts(POET, 3, 9, ASKS, MIN), -9);
        // thinks(x) is MIN + 2, with the hand MIN + 6; thinks(4) is -14
        due("sister", acts(SISTER, 0, 4, ASKS, 536870912), MIN + 6 ^ -14);
        due("widow, x the least", acts(WIDOW, 2, 9, ASKS, MIN), 11);
    }

    /** x by (a - n), cut: towards 0. */
    private static void partsIsCut() {
        for (int n = 0; n <= 7; n++) {
            for (int a = 0; a <= 9; a++) {
                int by = a - n;
                int[] numbers = {0, 1, -1, 8, -8, 9, 100, -100, MAX, MIN};
                for (int x : numbers) {
                    long cut = by == 0 ? -15 : (Math.abs((long) x) / Math.abs(by)) * Long.signum(x) * Long.signum(by);
                    due(x + " by " + by, acts(ASKER, n, a, PARTS, x), (int) cut);
                }
            }
        }
    }

    private static void partsWraps() {
        due("the least by -1", acts(ASKER, 1, 0, PARTS, MIN), MIN);
        due("the most by -1", acts(ASKER, 1, 0, PARTS, MAX), -MAX);
        due("poet: twice the most", acts(POET, 0, 1, PARTS, MAX), -2);
        due("poet: twice is the least, by -1, less n", acts(POET, 1, 0, PARTS, 1 << 30), MAX);
        due("boy: the least by -1, less 3", acts(BOY, 1, 0, PARTS, MIN), MAX - 2);
        due("boy: thinks(n) is 21", acts(BOY, 7, 9, PARTS, 5), 2 - 21);
    }

    private static void writesWraps() {
        due("asker: the least", acts(ASKER, 0, 0, WRITES, 536870912), MIN + 10);
        due("asker: -4", acts(ASKER, 0, 0, WRITES, MAX), -4 ^ 10);
        due("boy: 8 less", acts(BOY, 0, 0, WRITES, 536870912), MAX - 1);
        due("widow: parts(n) is -7 by 7", acts(WIDOW, 7, 0, WRITES, 0), (7 ^ 10) - 1);
        due("widow: parts(0) is 0 by 9", acts(WIDOW, 0, 9, WRITES, MIN), 9 ^ 10);
        due("widow: beyond the most", acts(WIDOW, 7, 8, WRITES, -536870912), (MIN + 15 ^ 10) + 7);
    }

    /** -15 if these are the same; that is all that act() answers then. */
    private static void partedByNothing() {
        int[][] bodies = {{12}, {12}, {12}, {50, 12}, {12}, {61, 12}};
        for (int kind = 0; kind < 6; kind++) {
            for (int n = 0; n <= 7; n++) {
                BlankRations x = eightAskers();
                x.mind(n, kind, n);
                x.shelf(0, 0, n);
                int[] numbers = {0, 1, MIN, MAX};
                for (int number : numbers) {
                    due("parts by nothing: " + kind, x.act(0, PARTS, number), -15);
                }
                dueTrace("parts by nothing: " + kind, x, bodies[kind]);
                boolean writesBy = kind == WIDOW || kind == SISTER;
                int answer = x.act(0, WRITES, 1000);
                Check.holds("writes: " + kind, (answer == -15) == writesBy);
                Check.holds("thinks: " + kind, x.act(0, THINKS, 1000) != -15);
                Check.holds("asks: " + kind, x.act(0, ASKS, 1000) != -15);
                x.mind(n, kind, n + 1);
                due("by 1: " + kind, x.act(0, PARTS, 0), kind == POET ? -n : kind == BOY ? -3 * n : 0);
                due("thought stays", x.of(n, 1), 50);
            }
        }
    }

    /** 0, and no TRACE then: no such SHELF, act, nothing, a row. */
    private static void noActNoTrace() {
        int[][] none = {{4, 0}, {-1, 0}, {MIN, 0}, {MAX, 3}, {0, 4}, {0, -1}, {0, MAX}, {0, MIN}, {1, 0}, {2, 3}, {3, 2}};
        for (int[] c : none) {
            BlankRations x = eightAskers();
            x.shelf(0, 0, 0);
            x.sheet(0, 0, 3);
            x.shelf(2, 1, 0);
            x.shelf(3, 2, 0);
            due("an act", x.act(0, WRITES, 1), 4 ^ 10);
            dueTrace("an act", x, 13, 11, 10);
            due("no act " + c[0] + ", " + c[1], x.act(c[0], c[1], 5), 0);
            dueTrace("no act", x);
            due("an act again", x.act(0, ASKS, 1), 4);
            dueTrace("an act again", x, 11, 10);
        }
    }

    /** Numbers of the bodies that ran, as they began (left first). */
    private static void everyBody() {
        int[][][] bodies = {
            {{10}, {11, 10}, {12}, {13, 11, 10}},
            {{10}, {20, 11, 10}, {12}, {13, 20, 11, 10}},
            {{30, 10}, {11, 30, 10}, {12}, {31, 13, 11, 30, 10, 12}},
            {{51, 10}, {20, 11, 51, 10}, {50, 12}, {13, 20, 11, 51, 10}},
            {{40, 30, 10}, {41, 11, 40, 30, 10, 40, 30, 10}, {12}, {31, 13, 41, 11, 40, 30, 10, 40, 30, 10, 12}},
            {{10}, {11, 10}, {61, 12, 10}, {60, 13, 11, 10}}};
        for (int kind = 0; kind < 6; kind++) {
            for (int act = 0; act < 4; act++) {
                BlankRations x = eightAskers();
                x.mind(2, kind, 9);
                x.shelf(1, 0, 2);
                x.act(1, act, MAX);
                dueTrace(kind + ", act " + act, x, bodies[kind][act]);
            }
        }
    }

    /** The first 30 are kept: no act of these KINDS goes beyond eleven. */
    private static void theLongestTrace() {
        BlankRations x = eightAskers();
        dueTrace("no act yet", x);
        x.mind(0, SISTER, 3);
        x.shelf(3, 0, 0);
        x.act(3, WRITES, 5);
        dueTrace("a sister writes", x, 31, 13, 41, 11, 40, 30, 10, 40, 30, 10, 12);
        due("the thirtieth", x.trace(29), NONE);
        due("one beyond", x.trace(30), NONE);
        x.act(3, PARTS, 5);
        dueTrace("the latest alone", x, 12);
    }

    /** How many: nothing there, and no more room. */
    private static void manyAtTheEnds() {
        BlankRations x = new BlankRations();
        for (int what = 0; what <= 6; what++) {
            due("nothing: " + what, x.many(what), 0);
        }
        due("another what", x.many(7), BAD);
        due("another what", x.many(-1), BAD);
        for (int i = 0; i < 8; i++) {
            x.person(ASKER, 10, 0, 0);
        }
        x.set(0, 8);
        due("people", x.many(0), 8);
        due("with a page", x.many(1), 0);
        due("given one", x.many(2), 0);
        due("ready", x.many(3), 8);
        x.weeks(1);
        due("with a page, all used", x.many(1), 0);
        due("given one", x.many(2), 8);
        due("ready", x.many(3), 0);
        x.own(7, 1);
        due("with a page", x.many(1), 1);
        x.own(0, 99);
        due("with pages", x.many(1), 2);
        x.prove(7, 10);
        due("rows", x.many(4), 10);
        for (int i = 0; i < 25; i++) {
            x.feed(0x2020202020202020L, 8);
        }
        due("bytes", x.many(5), 200);
        due("no more", x.feed(0x20, 1), FULL);
        due("bytes", x.many(5), 200);
    }

    // ---- what is kept

    /** NONE: nothing is kept. */
    private static void nothingIsKept() {
        BlankRations x = eightAskers();
        x.post();
        due("nothing is kept", x.again(), NONE);
        x.person(ASKER, 1, 0, 0);
        due("nothing is kept", x.again(), NONE);
        due("one stays", x.many(0), 1);
        due("kept", x.keep(), 1);
        due("one", x.again(), 1);
    }

    /** It becomes what was kept latest (which stays). */
    private static void keptLatest() {
        BlankRations x = new BlankRations();
        for (int i = 0; i < 8; i++) {
            x.person(ASKER, i, 0, 0);
            due("kept", x.keep(), 1);
        }
        x.post();
        for (int i = 0; i < 3; i++) {
            due("eight", x.again(), 8);
            due("thought of the last", x.of(7, 1), 7);
            x.weeks(60);
            x.thought(7, 1);
        }
        x.keep();
        x.post();
        due("eight, later", x.again(), 8);
        due("thought, later", x.of(7, 1), 1);
        due("week, later", x.state(0), 60);
    }

    /** What changes behind keep() doesn't change what is kept, nor what changes behind again(). */
    private static void keptIsACopy() {
        BlankRations x = eightAskers();
        x.seed(MIN);
        x.keep();
        for (int i = 0; i < 2; i++) {
            x.mind(0, BOY, 9);
            x.thought(1, 99);
            x.own(2, 99);
            x.set(3, 99);
            x.week();
            x.weeks(60);
            due("eight", x.again(), 8);
            due("kind", x.of(0, 0), ASKER);
            due("hand", x.of(0, 2), 0);
            due("thought", x.of(1, 1), 50);
            due("pages", x.of(2, 3), 0);
            due("got", x.many(2), 0);
            due("said", x.state(2), 0);
            due("week", x.state(0), 0);
            due("back", x.state(1), 0);
            due("slip", x.lawOf(3), 20);
            due("z", x.seed(MIN), MIN);
        }
    }

    private static void keptNobody() {
        BlankRations x = new BlankRations();
        due("kept", x.keep(), 1);
        x.person(ASKER, 0, 0, 0);
        due("nobody, which is something", x.again(), 0);
        due("nobody", x.many(0), 0);
        due("nobody", x.again(), 0);
        due("the first one", x.person(BOY, 0, 0, 0), 0);
    }

    /** All but THE TAPE, ROWS, SHEETS, SHELVES, THE TRACE is kept. */
    private static void notKept() {
        BlankRations x = eightAskers();
        TapeTest.feed(x, "boy");
        x.prove(0, 2);
        x.sheet(0, 0, 1);
        x.put(0, 0, 9);
        x.shelf(0, 0, 1);
        x.act(0, THINKS, 1);
        x.keep();
        TapeTest.feed(x, ";");
        x.prove(0, 3);
        x.sheet(0, 1, 2);
        x.put(0, 1, 8);
        x.shelf(0, 0, 2);
        x.act(0, ASKS, 1);
        x.again();
        due("bytes", x.many(5), 4);
        due("rows", x.many(4), 3);
        due("item", x.item(0, 1, 1), 8);
        due("shelf", x.taken(0, 0), 2);
        dueTrace("trace", x, 11, 10);
        due("the tape", x.post(), 1);
    }
}
