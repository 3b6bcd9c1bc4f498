/** Promises 1 and 4 to 17: a new object, laws, people, weeks, draws, states. */
final class PeopleTest {
    private static final int ASKER = 0, NOVELIST = 1, WIDOW = 2, POET = 3, SISTER = 4, BOY = 5;
    private static final int BAD = BlankRations.BAD, FULL = BlankRations.FULL, NONE = BlankRations.NONE;

    private PeopleTest() { }

    static void run() {
        newObject();
        laws();
        person();
        of();
        does();
        mind();
        thoughtAndOwn();
        give();
        weekThinks();
        weekGives();
        weekSays();
        weekHolds();
        drawsAndSeed();
        poor();
        state();
    }

    private static void due(String call, long got, long want) {
        Check.due(call, got, want);
    }

    private static void newObject() {
        BlankRations x = new BlankRations();
        for (int what = 0; what <= 6; what++) {
            due("1: many(" + what + ")", x.many(what), 0);
        }
        for (int what = 0; what <= 5; what++) {
            due("1: state(" + what + ")", x.state(what), 0);
        }
        due("1: VAN", x.lawOf(0), 3);
        due("1: LINES", x.lawOf(1), 2);
        due("1: RUB", x.lawOf(2), 1);
        due("1: SLIP", x.lawOf(3), 20);
        due("1: nothing is kept", x.again(), NONE);
        due("1: no row", x.row(0, 0), -9);
        due("1: no trace", x.trace(0), NONE);
        due("1: z", x.seed(1), 1);
        for (int i = 0; i < 4; i++) {
            due("1: sheet " + i + " is missing", x.put(i, 0, 1), -11);
            due("1: shelf " + i + " holds nothing", x.taken(i, 0), -11);
        }
        due("BAD", BAD, -1);
        due("FULL", FULL, -2);
        due("NONE", NONE, -3);
    }

    private static void laws() {
        BlankRations x = new BlankRations();
        int[] first = {3, 2, 1, 20};
        int[] most = {9, 9, 9, 99};
        for (int law = 0; law < 4; law++) {
            due("4: above", x.set(law, most[law] + 1), BAD);
            due("4: below", x.set(law, -1), BAD);
            due("5: unchanged", x.lawOf(law), first[law]);
            due("4: what it was", x.set(law, most[law]), first[law]);
            due("5: the most", x.lawOf(law), most[law]);
            due("4: to 0", x.set(law, 0), most[law]);
            due("5: 0", x.lawOf(law), 0);
        }
        due("4: no such law", x.set(4, 0), BAD);
        due("4: no such law", x.set(-1, 0), BAD);
        due("4: no such law", x.set(Integer.MIN_VALUE, 0), BAD);
        due("5: no such law", x.lawOf(4), BAD);
        due("5: no such law", x.lawOf(-1), BAD);
        due("5: no such law", x.lawOf(Integer.MAX_VALUE), BAD);
    }

    private static void person() {
        BlankRations x = new BlankRations();
        due("6: kind below", x.person(-1, 0, 0, 0), BAD);
        due("6: kind above", x.person(6, 0, 0, 0), BAD);
        due("6: thought below", x.person(0, -1, 0, 0), BAD);
        due("6: thought above", x.person(0, 100, 0, 0), BAD);
        due("6: hand below", x.person(0, 0, -1, 0), BAD);
        due("6: hand above", x.person(0, 0, 10, 0), BAD);
        due("6: pages below", x.person(0, 0, 0, -1), BAD);
        due("6: pages above", x.person(0, 0, 0, 100), BAD);
        due("6: nobody came", x.many(0), 0);
        for (int i = 0; i < 8; i++) {
            due("6: number", x.person(i % 6, 99, 9, 99), i);
        }
        due("6: a ninth", x.person(0, 0, 0, 0), FULL);
        due("6: BAD goes before FULL", x.person(6, 0, 0, 0), BAD);
        due("6: eight", x.many(0), 8);
    }

    private static void of() {
        BlankRations x = new BlankRations();
        due("7: nobody", x.of(0, 0), BAD);
        x.person(SISTER, 42, 6, 7);
        int[] want = {SISTER, 42, 6, 7, 0, 0};
        for (int what = 0; what < 6; what++) {
            due("7: of(0, " + what + ")", x.of(0, what), want[what]);
        }
        due("7: what above", x.of(0, 6), BAD);
        due("7: what below", x.of(0, -1), BAD);
        due("7: one above", x.of(1, 0), BAD);
        due("7: one below", x.of(-1, 0), BAD);
    }

    /** What one of a KIND with HAND 7 and some PAGES does under LINES 4 and RUB 3. */
    private static void doesAs(int kind, int pages, int thinks, int needs, int says) {
        BlankRations x = new BlankRations();
        x.set(1, 4);
        x.set(2, 3);
        x.person(kind, 0, 7, pages);
        due("8: " + kind + " thinks", x.does(0, 0), 1000 + thinks);
        due("8: " + kind + " needs", x.does(0, 1), 1000 + needs);
        due("8: " + kind + " says", x.does(0, 2), 1000 + says);
    }

    /** Whether one of a KIND uses a page in WEEKS 0 to 9. */
    private static void usesAs(int kind, String weeks) {
        BlankRations x = new BlankRations();
        x.person(kind, 0, 0, 0);
        for (int i = 0; i < weeks.length(); i++) {
            due("8: " + kind + " uses in week " + i, x.does(0, 3), 1000 + weeks.charAt(i) - '0');
            x.weeks(1);
        }
    }

    private static void does() {
        doesAs(ASKER, 5, 2, 10, 8);
        doesAs(NOVELIST, 5, 3, 14, 16);
        doesAs(POET, 5, 6, 7, 15);
        doesAs(WIDOW, 5, 1, 20, 11);
        doesAs(SISTER, 5, 4, 15, 15);
        doesAs(SISTER, 2, 4, 15, 12);
        doesAs(SISTER, 1, 4, 15, 11);
        doesAs(SISTER, 0, 4, 15, 11);
        doesAs(BOY, 5, 9, 3, 0);
        usesAs(ASKER, "1111111111");
        usesAs(NOVELIST, "1111111111");
        usesAs(POET, "1111111111");
        usesAs(WIDOW, "0101010101");
        usesAs(SISTER, "0001000001");
        usesAs(BOY, "0000000000");
        BlankRations x = new BlankRations();
        due("8: nobody", x.does(0, 0), BAD);
        x.person(ASKER, 0, 0, 0);
        due("8: what above", x.does(0, 4), BAD);
        due("8: what below", x.does(0, -1), BAD);
        due("8: one above", x.does(1, 0), BAD);
        due("8: one below", x.does(-1, 0), BAD);
    }

    private static void mind() {
        BlankRations x = new BlankRations();
        x.person(WIDOW, 12, 3, 4);
        due("9: kind above", x.mind(0, 6, 0), BAD);
        due("9: kind below", x.mind(0, -1, 0), BAD);
        due("9: hand above", x.mind(0, 0, 10), BAD);
        due("9: hand below", x.mind(0, 0, -1), BAD);
        due("9: no such one", x.mind(1, 0, 0), BAD);
        due("9: no such one", x.mind(-1, 0, 0), BAD);
        due("9: unchanged kind", x.of(0, 0), WIDOW);
        due("9: unchanged hand", x.of(0, 2), 3);
        due("9: what it was", x.mind(0, POET, 9), WIDOW);
        due("9: kind", x.of(0, 0), POET);
        due("9: hand", x.of(0, 2), 9);
        due("9: thought stays", x.of(0, 1), 12);
        due("9: pages stay", x.of(0, 3), 4);
        due("9: to the first again", x.mind(0, ASKER, 0), POET);
        due("9: to the last", x.mind(0, BOY, 0), ASKER);
    }

    private static void thoughtAndOwn() {
        BlankRations x = new BlankRations();
        due("10: nobody", x.thought(0, 1), BAD);
        due("11: nobody", x.own(0, 1), BAD);
        x.person(ASKER, 5, 0, 6);
        due("10: what it was", x.thought(0, 99), 5);
        due("10: what it was", x.thought(0, 0), 99);
        due("10: it is 0", x.of(0, 1), 0);
        due("10: above", x.thought(0, 100), BAD);
        due("10: below", x.thought(0, -1), BAD);
        due("10: one above", x.thought(1, 1), BAD);
        due("10: one below", x.thought(-1, 1), BAD);
        due("10: unchanged", x.of(0, 1), 0);
        due("11: what they were", x.own(0, 99), 6);
        due("11: what they were", x.own(0, 0), 99);
        due("11: above", x.own(0, 100), BAD);
        due("11: below", x.own(0, -1), BAD);
        due("11: one above", x.own(1, 1), BAD);
        due("11: one below", x.own(-1, 1), BAD);
        due("11: unchanged", x.of(0, 3), 0);
        due("11: thought stays", x.of(0, 1), 0);
        due("11: got stays", x.of(0, 4), 0);
    }

    private static void give() {
        BlankRations x = new BlankRations();
        x.person(ASKER, 0, 0, 2);
        x.person(BOY, 0, 0, 98);
        due("12: one and the same", x.give(0, 0), BAD);
        due("12: no such one", x.give(2, 0), BAD);
        due("12: no such other", x.give(0, 2), BAD);
        due("12: below", x.give(-1, 0), BAD);
        due("12: other below", x.give(0, -1), BAD);
        due("12: the other has then", x.give(0, 1), 99);
        due("12: one has then", x.of(0, 3), 1);
        due("12: got of the other", x.of(1, 4), 0);
        due("12: got of one", x.of(0, 4), 0);
        due("12: that one has 99", x.give(0, 1), NONE);
        due("12: unchanged", x.of(0, 3), 1);
        due("12: back", x.give(1, 0), 2);
        x.own(0, 0);
        due("12: it has none", x.give(0, 1), NONE);
        due("12: unchanged", x.of(1, 3), 98);
    }

    private static void weekThinks() {
        BlankRations x = new BlankRations();
        x.set(0, 0);
        x.set(2, 5);
        int[] thinks = {2, 3, 1, 6, 6, 9};
        for (int kind = 0; kind < 6; kind++) {
            x.person(kind, 10, 7, 0);
        }
        due("13: pages", x.weeks(1), 0);
        for (int kind = 0; kind < 6; kind++) {
            due("13: thought of " + kind, x.of(kind, 1), 10 + thinks[kind]);
        }
        x.weeks(60);
        for (int kind = 0; kind < 6; kind++) {
            due("13: thought of " + kind, x.of(kind, 1), Math.min(99, 10 + 61 * thinks[kind]));
        }
        due("13: below", x.weeks(0), BAD);
        due("13: above", x.weeks(61), BAD);
        due("13: below", x.weeks(-1), BAD);
        due("13: weeks in all", x.state(0), 61);
        due("13: nothing went back", x.state(1), 0);
    }

    private static void weekGives() {
        BlankRations x = new BlankRations();
        // behind thinking: asker 14 (4 above), boy 7 (4 above), novelist 15 (3 above), poet 8 (1 below)
        x.person(ASKER, 12, 3, 0);
        x.person(BOY, 5, 0, 0);
        x.person(NOVELIST, 12, 0, 0);
        x.person(POET, 2, 3, 0);
        x.set(0, 1);
        due("13: of equals the least", x.weeks(1), 0);
        due("13: the asker got", x.of(0, 4), 1);
        due("13: the asker's thought", x.of(0, 1), 4);
        due("13: the boy didn't", x.of(1, 4), 0);
        // now asker 6, boy 9 (6 above), novelist 18 (6 above), poet 14 (5 above): boy, novelist, poet, boy, boy
        x.set(0, 6);
        due("13: pages", x.weeks(1), 3);
        due("13: the boy got", x.of(1, 4), 3);
        due("13: the boy's thought", x.of(1, 1), 0);
        due("13: the novelist got", x.of(2, 4), 1);
        due("13: the novelist's thought", x.of(2, 1), 6);
        due("13: the poet got", x.of(3, 4), 1);
        due("13: the poet's thought", x.of(3, 1), 5);
        due("13: one page went back", x.state(1), 1);
        BlankRations y = new BlankRations();
        y.person(ASKER, 7, 0, 0);
        y.weeks(1);
        due("13: 1 too little", y.of(0, 4), 0);
        due("13: all went back", y.state(1), 3);
        y.thought(0, 8);
        y.weeks(1);
        due("13: just enough", y.of(0, 4), 1);
        due("13: all used", y.of(0, 1), 0);
        BlankRations z = new BlankRations();
        z.person(BOY, 99, 0, 98);
        z.person(BOY, 50, 0, 97);
        due("13: no more than 99", z.weeks(1), 198);
        due("13: none to the full one", z.of(0, 1), 96);
        due("13: the next one instead", z.of(1, 1), 46);
        due("13: the full ones send all back", z.weeks(1), 198);
        due("13: back", z.state(1), 3);
    }

    private static void weekSays() {
        BlankRations x = new BlankRations();
        x.set(0, 0);
        x.set(2, 3);
        for (int kind = 0; kind < 6; kind++) {
            x.person(kind, 0, 4, 3);
        }
        x.person(ASKER, 0, 9, 0);
        // asker 5, novelist 10, widow 8, poet 9, sister 8 and 2 for pages, boy 0
        int[] says = {5, 10, 8, 9, 10, 0, 0};
        due("13: pages of all", x.weeks(1), 15);
        int[] left = {2, 2, 3, 2, 3, 3, 0};
        for (int i = 0; i < 7; i++) {
            due("13: said by " + i, x.of(i, 5), says[i]);
            due("13: pages of " + i, x.of(i, 3), left[i]);
        }
        due("13: week 1, in which the widow uses one", x.weeks(1), 11);
        due("13: the widow's pages", x.of(2, 3), 2);
        x.weeks(1);
        due("13: the last of the asker's went", x.of(0, 3), 0);
        due("13: said thrice", x.of(0, 5), 15);
        x.weeks(1);
        due("13: said no more", x.of(0, 5), 15);
        due("13: the sister uses one in week 3", x.of(4, 3), 2);
        due("13: the sister said", x.of(4, 5), 40);
        x.weeks(1);
        due("13: the sister says less then", x.of(4, 5), 49);
    }

    private static void weekHolds() {
        BlankRations x = new BlankRations();
        x.set(0, 9);
        x.weeks(60);
        due("13: back", x.state(1), 540);
        for (int i = 0; i < 17; i++) {
            x.weeks(60);
        }
        due("13: back", x.state(1), 9720);
        x.weeks(31);
        due("13: back at its most", x.state(1), 9999);
        x.weeks(60);
        due("13: back is held", x.state(1), 9999);
        due("13: weeks aren't", x.state(0), 1171);
        BlankRations y = new BlankRations();
        y.set(0, 0);
        y.set(2, 9);
        y.person(SISTER, 0, 9, 99);
        for (int i = 0; i < 14; i++) {
            y.own(0, 99);
            y.weeks(60);
        }
        due("13: said", y.of(0, 5), 94220);
        y.own(0, 99);
        due("18: words beyond what can be said", y.words(60), 6730);
        y.weeks(60);
        due("13: said is held", y.of(0, 5), 99999);
        y.own(0, 1);
        due("15: what is said is told, held or not", y.week(), 19);
        due("13: said is held", y.state(2), 99999);
        gotHolds();
    }

    /** A poet with LINES 0 and HAND 9 needs 1: nine pages a week from 99 thoughts. */
    private static void gotHolds() {
        BlankRations x = new BlankRations();
        x.set(0, 9);
        x.set(1, 0);
        x.person(POET, 99, 9, 0);
        int weeks = 0;
        for (int i = 0; i < 111; i++) {
            x.thought(0, 99);
            x.own(0, 0);
            x.weeks(10);
            weeks += 10;
        }
        due("13: got by then", x.of(0, 4), 9990);
        x.thought(0, 99);
        x.own(0, 0);
        due("19: got is more next week", x.gets(0), 1);
        x.weeks(10);
        due("13: got is held", x.of(0, 4), 9999);
        x.own(0, 0);
        due("19: got is never more", x.gets(0), NONE);
        due("23: but it gets pages", x.thoughtFor(0, 1), 0);
        due("many(2)", x.many(2), 1);
    }

    private static int step(int z) {
        return z * 1103515245 + 12345;
    }

    private static void drawsAndSeed() {
        BlankRations x = new BlankRations();
        due("14: what it was", x.seed(-5), 1);
        due("14: what it was", x.seed(Integer.MIN_VALUE), -5);
        due("14: what it was", x.seed(1), Integer.MIN_VALUE);
        due("15: nobody says nothing", x.week(), 0);
        due("15: nothing was drawn", x.seed(1), 1);
        due("15: a week it was", x.state(0), 1);
        x.set(0, 0);
        x.set(3, 50);
        for (int i = 0; i < 5; i++) {
            x.person(BOY, 81, 0, 0);
        }
        x.person(ASKER, 81, 6, 9);
        int z = 1;
        for (int i = 0; i < 12; i++) {
            for (int p = 0; p < 6; p++) {
                x.thought(p, 81);
            }
            due("15: said", x.week(), i < 9 ? 7 : 0);
            z = step(z);
            int one = (z >>> 16) % 6;
            z = step(z);
            boolean slips = (z >>> 16) % 100 < 50;
            for (int p = 0; p < 6; p++) {
                due("15: thought of " + p, x.of(p, 1), (p == one && slips ? 40 : 81) + 2);
            }
        }
        due("14: z went on", x.seed(0), z);
        slipsAtTheEdge();
    }

    /** The second draw leaves just SLIP: no slip; with SLIP 1 more there is one. */
    private static void slipsAtTheEdge() {
        int z = 1;
        int leaves = 0;
        for (int seed = 1; leaves < 5 || leaves > 90; seed++) {
            z = seed;
            leaves = (step(step(z)) >>> 16) % 100;
        }
        for (int more = 0; more < 2; more++) {
            BlankRations x = new BlankRations();
            x.set(0, 0);
            x.set(3, leaves + more);
            x.person(ASKER, 11, 0, 0);
            x.seed(z);
            x.week();
            due("15: SLIP and " + more, x.of(0, 1), more == 0 ? 13 : 7);
        }
        BlankRations y = new BlankRations();
        y.set(3, 0);
        y.set(0, 0);
        y.person(ASKER, 11, 0, 0);
        for (int i = 0; i < 40; i++) {
            y.week();
        }
        due("15: no slips by 0", y.of(0, 1), 91);
    }

    private static void poor() {
        BlankRations x = new BlankRations();
        due("16: below", x.poor(0), BAD);
        due("16: above", x.poor(31), BAD);
        due("16: nobody", x.poor(30), 0);
        // he gets a page this week, if his thought isn't halved
        x.person(ASKER, 8, 3, 0);
        x.set(3, 40);
        x.seed(7);
        int z = 7;
        int due = 0;
        for (int n = 1; n <= 30; n++) {
            z = step(step(z));
            due += (z >>> 16) % 100 < 40 ? 1 : 0;
            due("16: poor(" + n + ")", x.poor(n), due);
        }
        Check.holds("16: some are", due > 5 && due < 25);
        due("16: thought stays", x.of(0, 1), 8);
        due("16: week stays", x.state(0), 0);
        due("16: z stays", x.seed(7), 7);
        x.own(0, 1);
        due("16: equal isn't less", x.poor(30), 0);
    }

    private static void state() {
        BlankRations x = new BlankRations();
        x.person(ASKER, 10, 1, 4);
        x.person(ASKER, 9, 1, 0);
        x.person(NOVELIST, 12, 2, 1);
        x.person(BOY, 3, 0, 99);
        due("17: set", x.state(5), 1 + 4 + 8);
        due("42: ready", x.many(3), 3);
        due("17: thought", x.state(4), 34);
        due("17: pages", x.state(3), 104);
        due("42: with a page", x.many(1), 3);
        due("42: given one", x.many(2), 0);
        // behind thinking: 12, 11, 15, 5: the novelist, of equals the first asker, the boy is full
        x.weeks(1);
        due("17: week", x.state(0), 1);
        due("17: back", x.state(1), 0);
        due("42: given one", x.many(2), 3);
        due("17: said", x.state(2), 2 + 2 + 6);
        due("17: pages", x.state(3), 4 + 0 + 1 + 99);
        due("17: thought", x.state(4), 2 + 1 + 3 + 5);
        due("17: set", x.state(5), 8);
        due("17: below", x.state(-1), BAD);
        due("17: above", x.state(6), BAD);
        due("42: below", x.many(-1), BAD);
        due("42: above", x.many(7), BAD);
    }
}
