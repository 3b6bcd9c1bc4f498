/** Promises 30 to 44: rows of weeks, things of kinds with acts, post offices kept. */
final class RowsAndThingsTest {
    private static final int ASKER = 0, NOVELIST = 1, WIDOW = 2, POET = 3, SISTER = 4, BOY = 5;
    private static final int BAD = BlankRations.BAD, NONE = BlankRations.NONE;
    private static final int MIN = Integer.MIN_VALUE, MAX = Integer.MAX_VALUE;

    private RowsAndThingsTest() { }

    static void run() {
        prove();
        alterRow();
        judge();
        minds();
        sheet();
        put();
        item();
        shelf();
        taken();
        takenRows();
        acts();
        partedByNothing();
        actsWrap();
        noAct();
        keepAndAgain();
    }

    private static void due(String call, long got, long want) {
        Check.due(call, got, want);
    }

    private static void dueRow(BlankRations x, int i, int thought, int pages, int said) {
        due("31: thought of row " + i, x.row(i, 0), thought);
        due("31: pages of row " + i, x.row(i, 1), pages);
        due("31: said in row " + i, x.row(i, 2), said);
    }

    private static void prove() {
        BlankRations x = new BlankRations();
        due("30: nobody", x.prove(0, 1), BAD);
        x.person(ASKER, 6, 4, 1);
        x.person(BOY, 0, 0, 0);
        x.person(WIDOW, 0, 1, 1);
        due("30: below", x.prove(0, 0), BAD);
        due("30: above", x.prove(0, 11), BAD);
        due("30: one above", x.prove(3, 1), BAD);
        due("30: one below", x.prove(-1, 1), BAD);
        due("30: no rows yet", x.many(4), 0);
        due("30: four", x.prove(0, 4), 4);
        // the asker says 5, the widow 3 while she has her page, which goes in week 1
        dueRow(x, 0, 8, 0, 8);
        dueRow(x, 1, 0, 0, 8);
        dueRow(x, 2, 2, 0, 0);
        dueRow(x, 3, 4, 0, 0);
        due("31: no fifth", x.row(4, 0), -9);
        due("31: below", x.row(-1, 0), -9);
        due("31: what above", x.row(0, 3), -9);
        due("31: what below", x.row(0, -1), -9);
        due("42: rows", x.many(4), 4);
        due("30: two of the boy", x.prove(1, 2), 2);
        dueRow(x, 0, 2, 0, 8);
        dueRow(x, 1, 1, 1, 8);
        due("31: no third", x.row(2, 0), -9);
        due("30: a refusal", x.prove(3, 9), BAD);
        due("30: leaves the rows", x.many(4), 2);
        due("30: one", x.prove(1, 1), 1);
        due("31: no second", x.row(1, 0), -9);
        due("30: ten", x.prove(1, 10), 10);
        due("31: the last", x.row(9, 1), 6);
        due("31: no eleventh", x.row(10, 1), -9);
    }

    private static void alterRow() {
        BlankRations x = new BlankRations();
        due("32: none", x.alterRow(0, 0, 1), -9);
        x.person(ASKER, 6, 4, 1);
        x.prove(0, 2);
        for (int what = 0; what < 3; what++) {
            int was = x.row(1, what);
            due("32: what it was", x.alterRow(1, what, MIN + what), was);
            due("32: it is", x.row(1, what), MIN + what);
        }
        due("32: and again", x.alterRow(1, 2, -9), MIN + 2);
        due("32: above", x.alterRow(2, 0, 1), -9);
        due("32: below", x.alterRow(-1, 0, 1), -9);
        due("32: what above", x.alterRow(1, 3, 1), -9);
        due("32: what below", x.alterRow(1, -1, 1), -9);
        dueRow(x, 0, 8, 0, 5);
    }

    private static void judge() {
        BlankRations x = new BlankRations();
        due("33: nobody", x.judge(0), BAD);
        x.person(ASKER, 6, 4, 1);
        x.person(BOY, 0, 0, 0);
        due("33: no rows", x.judge(0), 0);
        due("33: above", x.judge(2), BAD);
        due("33: below", x.judge(-1), BAD);
        x.prove(0, 10);
        due("33: right", x.judge(0), 0);
        due("33: of another", x.judge(1), 1);
        for (int what = 0; what < 3; what++) {
            int was = x.alterRow(9, what, 77);
            due("33: the last", x.judge(0), 10);
            int also = x.alterRow(3, what, -1);
            due("33: the first that isn't", x.judge(0), 4);
            x.alterRow(9, what, was);
            due("33: the fourth", x.judge(0), 4);
            x.alterRow(3, what, also);
            due("33: right again", x.judge(0), 0);
        }
        x.thought(1, 1);
        due("33: the other's thought counts nothing here", x.judge(0), 0);
        x.mind(1, NOVELIST, 0);
        due("33: the other's words count, in week 4", x.judge(0), 4);
        x.mind(1, BOY, 0);
        x.weeks(1);
        due("33: from how it is now", x.judge(0), 1);
    }

    private static BlankRations withBytes() {
        BlankRations x = new BlankRations();
        for (int i = 0; i < 3; i++) {
            x.person(ASKER, 50, 0, 0);
        }
        x.sheet(0, 0, 4);
        int[] bytes = {7, 100, 127, -1};
        for (int i = 0; i < 4; i++) {
            x.put(0, i, bytes[i]);
        }
        return x;
    }

    private static void dueThoughts(BlankRations x, int a, int b, int c) {
        due("34: first thought", x.of(0, 1), a);
        due("34: second thought", x.of(1, 1), b);
        due("34: third thought", x.of(2, 1), c);
    }

    private static void minds() {
        BlankRations x = withBytes();
        x.sheet(1, 1, 4);
        due("34: no sheet above", x.minds(4, 0, 0, 1), BAD);
        due("34: no sheet below", x.minds(-1, 0, 0, 1), BAD);
        due("34: no one above", x.minds(0, 0, 3, 0), BAD);
        due("34: no one below", x.minds(0, 0, -1, 0), BAD);
        due("34: n below", x.minds(0, 0, 0, -1), BAD);
        due("34: n above", x.minds(0, 0, 0, 9), BAD);
        due("34: n beyond the last one", x.minds(0, 0, 1, 3), BAD);
        due("34: n at its most", x.minds(0, 0, 0, MAX), BAD);
        due("34: missing", x.minds(2, 0, 0, 1), -11);
        due("34: BAD goes before -11", x.minds(2, 0, 0, 9), BAD);
        due("34: shorts", x.minds(1, 0, 0, 1), -13);
        due("34: BAD goes before -13", x.minds(1, 0, 1, 3), BAD);
        due("34: -13 goes before -12", x.minds(1, 5, 0, 1), -13);
        due("34: -11 goes before -12", x.minds(2, 5, 0, 1), -11);
        due("34: i below", x.minds(0, -1, 0, 1), -12);
        due("34: i above", x.minds(0, 4, 0, 1), -12);
        due("34: not so many", x.minds(0, 3, 0, 2), -12);
        due("34: i at its most", x.minds(0, MAX, 0, 2), -12);
        due("34: i above for none", x.minds(0, 5, 0, 0), -12);
        due("34: i below for none", x.minds(0, -1, 0, 0), -12);
        due("34: BAD goes before -12", x.minds(0, 9, 3, 0), BAD);
        dueThoughts(x, 50, 50, 50);
        due("34: none", x.minds(0, 4, 0, 0), 0);
        dueThoughts(x, 50, 50, 50);
        due("34: two", x.minds(0, 0, 1, 2), 2);
        dueThoughts(x, 50, 7, 99);
        due("34: three", x.minds(0, 1, 0, 3), 3);
        dueThoughts(x, 99, 99, 0);
    }

    private static void sheet() {
        BlankRations x = new BlankRations();
        due("35: no sheet above", x.sheet(4, 0, 1), BAD);
        due("35: no sheet below", x.sheet(-1, 0, 1), BAD);
        due("35: sort above", x.sheet(0, 4, 1), BAD);
        due("35: sort below", x.sheet(0, -2, 1), BAD);
        due("35: n above", x.sheet(0, 0, 41), BAD);
        due("35: n below", x.sheet(0, 0, -1), -14);
        due("35: n below", x.sheet(0, 3, MIN), -14);
        due("35: BAD goes before -14", x.sheet(0, 4, -1), BAD);
        due("35: BAD goes before -14", x.sheet(4, 0, -1), BAD);
        due("35: still missing", x.item(0, 0, 0), -11);
        for (int sort = 0; sort < 4; sort++) {
            due("35: forty", x.sheet(sort, sort, 40), 1);
            due("35: all 0", x.item(sort, sort, 39), 0);
            x.put(sort, 39, 5);
            x.put(sort, 0, 6);
            due("35: -14 leaves it", x.sheet(sort, sort, -1), -14);
            due("35: 41 leaves it", x.sheet(sort, sort, 41), BAD);
            due("35: as it was", x.item(sort, sort, 39), 5);
            due("35: anew", x.sheet(sort, sort, 40), 1);
            due("35: all 0", x.item(sort, sort, 39), 0);
            due("35: all 0", x.item(sort, sort, 0), 0);
        }
        due("35: missing", x.sheet(0, -1, MAX), 1);
        due("35: missing", x.item(0, 0, 0), -11);
        due("35: none", x.sheet(0, 0, 0), 1);
        due("35: none", x.item(0, 0, 0), -12);
    }

    private static void put() {
        BlankRations x = new BlankRations();
        due("36: no sheet above", x.put(4, 0, 1), BAD);
        due("36: no sheet below", x.put(-1, 0, 1), BAD);
        due("36: missing", x.put(0, 0, 1), -11);
        int[] values = {200, 40000, MIN + 7, -1, 65536 + 258};
        int[][] want = {{-56, 64, 7, -1, 2}, {200, -25536, 7, -1, 258},
            {200, 40000, MIN + 7, -1, 65794}, {200, 40000, MIN + 7, -1, 65794}};
        for (int sort = 0; sort < 4; sort++) {
            x.sheet(sort, sort, 5);
            due("36: below", x.put(sort, -1, 1), -12);
            due("36: above", x.put(sort, 5, 1), -12);
            due("36: far above", x.put(sort, MAX, 1), -12);
            for (int i = 0; i < 5; i++) {
                due("36: put", x.put(sort, i, values[i]), 1);
            }
            for (int i = 0; i < 5; i++) {
                due("37: sort " + sort, x.item(sort, sort, i), want[sort][i]);
            }
        }
    }

    private static void item() {
        BlankRations x = new BlankRations();
        x.sheet(0, 2, 3);
        due("37: no sheet above", x.item(4, 0, 0), BAD);
        due("37: no sheet below", x.item(-1, 0, 0), BAD);
        due("37: sort above", x.item(0, 4, 0), BAD);
        due("37: sort below", x.item(0, -1, 0), BAD);
        due("37: missing", x.item(1, 2, 0), -11);
        due("37: BAD goes before -11", x.item(1, 4, 0), BAD);
        due("37: -11 goes before -12", x.item(1, 2, 9), -11);
        for (int sort = 0; sort < 4; sort++) {
            due("37: sort " + sort, x.item(0, sort, 0), sort == 2 ? 0 : -13);
            due("37: -13 goes before -12", x.item(0, sort, 3), sort == 2 ? -12 : -13);
        }
        due("37: below", x.item(0, 2, -1), -12);
        due("37: far above", x.item(0, 2, MAX), -12);
        x.put(0, 2, -12);
        due("37: as low as these", x.item(0, 2, 2), -12);
    }

    private static void shelf() {
        BlankRations x = new BlankRations();
        x.person(ASKER, 0, 0, 0);
        due("38: no shelf above", x.shelf(4, 2, 0), BAD);
        due("38: no shelf below", x.shelf(-1, 2, 0), BAD);
        due("38: what above", x.shelf(0, 3, 0), BAD);
        due("38: what below", x.shelf(0, -1, 0), BAD);
        due("38: no one above", x.shelf(0, 0, 1), BAD);
        due("38: no one below", x.shelf(0, 0, -1), BAD);
        due("38: no sheet above", x.shelf(0, 1, 4), BAD);
        due("38: no sheet below", x.shelf(0, 1, -1), BAD);
        for (int i = 0; i < 4; i++) {
            due("38: one", x.shelf(i, 0, 0), 1);
            due("39: one", x.taken(i, 0), 0);
            due("38: refused", x.shelf(i, 1, 4), BAD);
            due("39: still one", x.taken(i, 0), 0);
            due("38: nothing", x.shelf(i, 2, MIN), 1);
            due("39: nothing", x.taken(i, 0), -11);
            due("39: nothing", x.taken(i, 10), -11);
        }
        x.shelf(0, 0, 0);
        due("38: the row of a missing sheet", x.shelf(0, 1, 0), 1);
        due("39: nothing", x.taken(0, 10), -11);
    }

    private static void taken() {
        BlankRations x = new BlankRations();
        int[] under = {1, 1 + 2, 1 + 4, 1 + 2 + 8, 1 + 4 + 16, 1 + 32};
        for (int kind = 0; kind < 6; kind++) {
            x.person(kind, 0, 0, 0);
            x.shelf(kind % 4, 0, kind);
            for (int as = 0; as < 6; as++) {
                int want = (under[kind] >> as & 1) == 1 ? kind : -13;
                due("39: " + kind + " as " + as, x.taken(kind % 4, as), want);
            }
            for (int as = 10; as < 14; as++) {
                due("39: one as a row", x.taken(kind % 4, as), -13);
            }
        }
        int[] bad = {-1, 6, 7, 8, 9, 14, MIN, MAX};
        for (int as : bad) {
            due("39: as " + as, x.taken(0, as), BAD);
        }
        due("39: no shelf above", x.taken(4, 0), BAD);
        due("39: no shelf below", x.taken(-1, 0), BAD);
        due("39: sister on shelf 0", x.taken(0, SISTER), SISTER);
        x.mind(SISTER, POET, 0);
        due("39: of its kind now", x.taken(0, POET), SISTER);
        due("39: of its kind now", x.taken(0, SISTER), -13);
        x.shelf(3, 2, 0);
        due("39: BAD goes before -11", x.taken(3, 6), BAD);
    }

    private static void takenRows() {
        BlankRations x = new BlankRations();
        for (int sort = 0; sort < 4; sort++) {
            x.sheet(sort, sort, 5 + sort);
            x.shelf(sort, 1, sort);
            for (int as = 0; as < 6; as++) {
                due("39: a row as one", x.taken(sort, as), -13);
            }
            for (int as = 10; as < 14; as++) {
                due("39: a row as a row", x.taken(sort, as), as - 10 == sort ? 5 + sort : -13);
            }
        }
        x.sheet(2, 0, 40);
        due("39: the shelf holds the row that was", x.taken(2, 12), 7);
        x.sheet(2, -1, 0);
        due("39: the shelf holds the row that was", x.taken(2, 12), 7);
        x.sheet(2, 3, 0);
        x.shelf(2, 1, 2);
        due("39: none on it", x.taken(2, 13), 0);
    }

    /** An act of one of a KIND, whose number is 1 and whose HAND is 4, with 5. */
    private static void dueAct(int kind, int act, int want, int... bodies) {
        BlankRations x = new BlankRations();
        x.person(BOY, 0, 0, 0);
        x.person(kind, 0, 4, 0);
        x.shelf(2, 0, 1);
        due("40: act " + act + " of " + kind, x.act(2, act, 5), want);
        due("42: bodies", x.many(6), bodies.length);
        for (int i = 0; i < bodies.length; i++) {
            due("41: act " + act + " of " + kind, x.trace(i), bodies[i]);
        }
        due("41: no more", x.trace(bodies.length), NONE);
        due("41: below", x.trace(-1), NONE);
        due("41: far above", x.trace(MAX), NONE);
    }

    private static void acts() {
        dueAct(ASKER, 0, 19, 10);
        dueAct(ASKER, 1, 23, 11, 10);
        dueAct(ASKER, 2, 1, 12);
        dueAct(ASKER, 3, 23 ^ 10, 13, 11, 10);
        dueAct(NOVELIST, 0, 19, 10);
        dueAct(NOVELIST, 1, 69, 20, 11, 10);
        dueAct(NOVELIST, 2, 1, 12);
        dueAct(NOVELIST, 3, 69 ^ 10, 13, 20, 11, 10);
        dueAct(WIDOW, 0, -19, 30, 10);
        dueAct(WIDOW, 1, -15, 11, 30, 10);
        dueAct(WIDOW, 2, 1, 12);
        dueAct(WIDOW, 3, -15 ^ 10, 31, 13, 11, 30, 10, 12);
        dueAct(POET, 0, 15, 51, 10);
        dueAct(POET, 1, 57, 20, 11, 51, 10);
        dueAct(POET, 2, 2, 50, 12);
        dueAct(POET, 3, 57 ^ 10, 13, 20, 11, 51, 10);
        dueAct(SISTER, 0, -17, 40, 30, 10);
        dueAct(SISTER, 1, -13 ^ -13, 41, 11, 40, 30, 10, 40, 30, 10);
        dueAct(SISTER, 2, 1, 12);
        dueAct(SISTER, 3, 10, 31, 13, 41, 11, 40, 30, 10, 40, 30, 10, 12);
        dueAct(BOY, 0, 19, 10);
        dueAct(BOY, 1, 23, 11, 10);
        dueAct(BOY, 2, 1 - 3, 61, 12, 10);
        dueAct(BOY, 3, 8 - (23 ^ 10), 60, 13, 11, 10);
    }

    /** HAND is the number: who parts has nothing to part by. */
    private static void dueParted(int kind, int act, int... bodies) {
        BlankRations x = new BlankRations();
        x.person(kind, 0, 0, 0);
        x.shelf(0, 0, 0);
        due("40: " + kind + " parts by nothing", x.act(0, act, 5), -15);
        due("42: bodies", x.many(6), bodies.length);
        for (int i = 0; i < bodies.length; i++) {
            due("41: they began", x.trace(i), bodies[i]);
        }
        due("40: the next act is as ever", x.act(0, 0, 0), kind == SISTER ? 2 : 0);
    }

    private static void partedByNothing() {
        dueParted(ASKER, 2, 12);
        dueParted(NOVELIST, 2, 12);
        dueParted(WIDOW, 2, 12);
        dueParted(SISTER, 2, 12);
        dueParted(POET, 2, 50, 12);
        dueParted(BOY, 2, 61, 12);
        dueParted(WIDOW, 3, 31, 13, 11, 30, 10, 12);
        dueParted(SISTER, 3, 31, 13, 41, 11, 40, 30, 10, 40, 30, 10, 12);
        BlankRations x = new BlankRations();
        x.person(ASKER, 0, 0, 0);
        x.shelf(0, 0, 0);
        due("40: writes doesn't part", x.act(0, 3, 0), 10);
    }

    private static void actsWrap() {
        BlankRations x = new BlankRations();
        x.person(ASKER, 0, 3, 0);
        x.person(ASKER, 0, 0, 0);
        x.person(POET, 0, 9, 0);
        x.person(BOY, 0, 1, 0);
        for (int i = 0; i < 4; i++) {
            x.shelf(i, 0, i);
        }
        due("40: times 4 wraps", x.act(0, 0, MAX), -4);
        due("40: cut towards 0", x.act(0, 2, -8), -2);
        due("40: cut towards 0", x.act(0, 2, 8), 2);
        due("40: by -1", x.act(1, 2, MIN), MIN);
        due("40: by -1", x.act(1, 2, 7), -7);
        due("40: twice wraps", x.act(2, 2, MAX), -2);
        due("40: by a negative", x.act(3, 2, 7), -3 - 9);
        due("40: thrice wraps", x.act(2, 1, MAX / 2), (MAX / 2 * 4 - 2 - 9 + 9) * 3);
    }

    private static void noAct() {
        int[][] none = {{4, 0}, {-1, 0}, {0, 4}, {0, -1}, {1, 0}, {2, 0}};
        for (int[] shelfAndAct : none) {
            BlankRations x = new BlankRations();
            x.person(NOVELIST, 0, 4, 0);
            x.shelf(0, 0, 0);
            x.sheet(0, 0, 3);
            x.shelf(2, 1, 0);
            due("40: an act", x.act(0, 1, 5), 72);
            due("42: bodies", x.many(6), 3);
            due("40: no act", x.act(shelfAndAct[0], shelfAndAct[1], 5), 0);
            due("42: no trace", x.many(6), 0);
            due("41: no trace", x.trace(0), NONE);
        }
    }

    private static void keepAndAgain() {
        BlankRations x = new BlankRations();
        due("44: nothing is kept", x.again(), NONE);
        x.person(SISTER, 40, 6, 3);
        x.person(BOY, 30, 2, 1);
        x.set(0, 7);
        x.set(3, 55);
        x.weeks(3);
        x.seed(1234);
        int[] before = all(x);
        due("43: kept", x.keep(), 1);
        due("43: nothing changes", java.util.Arrays.equals(before, all(x)) ? 1 : 0, 1);
        change(x);
        due("44: how many", x.again(), 2);
        dueAll(x, before);
        change(x);
        due("44: it stays", x.again(), 2);
        dueAll(x, before);
        BlankRations y = new BlankRations();
        y.keep();
        y.person(ASKER, 0, 0, 0);
        due("44: nobody", y.again(), 0);
        due("44: nobody", y.many(0), 0);
        whatIsNotKept();
    }

    private static void change(BlankRations x) {
        x.mind(0, ASKER, 0);
        x.mind(1, ASKER, 0);
        x.thought(1, 99);
        x.own(1, 88);
        x.set(0, 9);
        x.set(1, 9);
        x.set(2, 9);
        x.set(3, 9);
        x.week();
        x.weeks(9);
        x.person(BOY, 1, 2, 3);
    }

    private static int[] all(BlankRations x) {
        int[] all = new int[8 * 6 + 6 + 4 + 1];
        int k = 0;
        for (int p = 0; p < 8; p++) {
            for (int what = 0; what < 6; what++) {
                all[k++] = x.of(p, what);
            }
        }
        for (int what = 0; what < 6; what++) {
            all[k++] = x.state(what);
        }
        for (int law = 0; law < 4; law++) {
            all[k++] = x.lawOf(law);
        }
        all[k] = x.seed(0);
        x.seed(all[k]);
        return all;
    }

    private static void dueAll(BlankRations x, int[] want) {
        int[] got = all(x);
        for (int i = 0; i < want.length; i++) {
            due("44: part " + i, got[i], want[i]);
        }
    }

    private static void whatIsNotKept() {
        BlankRations x = new BlankRations();
        x.person(ASKER, 0, 5, 0);
        x.keep();
        x.person(POET, 0, 5, 0);
        x.feed(7, 3);
        x.prove(0, 4);
        x.sheet(1, 2, 6);
        x.put(1, 5, 66);
        x.shelf(0, 0, 1);
        x.shelf(1, 1, 1);
        x.act(0, 0, 1);
        due("44: how many", x.again(), 1);
        due("44: the tape goes on", x.many(5), 3);
        due("44: the rows go on", x.many(4), 4);
        due("44: the sheet goes on", x.item(1, 2, 5), 66);
        due("44: the trace goes on", x.many(6), 2);
        due("44: the row is on its shelf", x.taken(1, 12), 6);
        due("44: there is no such one", x.taken(0, 0), -11);
        due("40: there is no such one", x.act(0, 0, 1), 0);
        due("42: no trace", x.many(6), 0);
        x.person(NOVELIST, 0, 5, 0);
        due("38: there is again", x.taken(0, 1), 1);
    }
}
