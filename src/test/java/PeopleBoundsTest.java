/** The boundary cases that the document names of LAWS, PEOPLE, a WEEK and a WEEK BY DRAWS: a method for each sentence. */
final class PeopleBoundsTest {
    private static final int ASKER = 0, NOVELIST = 1, WIDOW = 2, POET = 3, SISTER = 4, BOY = 5;
    private static final int BAD = BlankRations.BAD, FULL = BlankRations.FULL, NONE = BlankRations.NONE;
    private static final int VAN = 0, LINES = 1, RUB = 2, SLIP = 3;
    private static final int KIND = 0, THOUGHT = 1, HAND = 2, PAGES = 3, GOT = 4, SAID = 5;
    private static final int MIN = Integer.MIN_VALUE, MAX = Integer.MAX_VALUE;

    private PeopleBoundsTest() { }

    static void run() {
        lawsAtFirst();
        vanAtItsEnds();
        thinksAtTheEnds();
        needsAtTheEnds();
        saysAtTheEnds();
        aSistersPages();
        usesByTheWeek();
        eightAtMost();
        atFirst();
        oneAtTheEnds();
        thoughtIsHeld();
        justWhatItNeeds();
        lessThan99Pages();
        ofSeveralTheLeast();
        mostAboveThat();
        ifThereIsNone();
        thatHasAPage();
        hasOneLess();
        backIsHeld();
        gotIsHeld();
        saidIsHeld();
        afterFiveHundredAndEleven();
        givesTheLastPage();
        mindAtTheEnds();
        zWraps();
        drawsAreAbove0();
        ifThereArePeople();
        theOneThatItLeaves();
        whatLeavesIsBelowSlip();
        halfIsCut();
        poorAtTheEnds();
        poorIsLess();
        setOfThoseReady();
    }

    private static void due(String call, long got, long want) {
        Check.due(call, got, want);
    }

    private static BlankRations withLaws(int van, int lines, int rub, int slip) {
        BlankRations x = new BlankRations();
        x.set(VAN, van);
        x.set(LINES, lines);
        x.set(RUB, rub);
        x.set(SLIP, slip);
        return x;
    }

    /** 0 VAN (0 to 9; 3 at first), 1 LINES (0 to 9; 2), 2 RUB (0 to 9; 1), 3 SLIP (0 to 99 of a hundred; 20). */
    private static void lawsAtFirst() {
        int[] first = {3, 2, 1, 20};
        int[] most = {9, 9, 9, 99};
        for (int law = 0; law < 4; law++) {
            BlankRations x = new BlankRations();
            due("law " + law + " at first", x.lawOf(law), first[law]);
            due("law " + law + " to its most", x.set(law, most[law]), first[law]);
            due("law " + law + " at its most", x.lawOf(law), most[law]);
            due("law " + law + " one above", x.set(law, most[law] + 1), BAD);
            due("law " + law + " to its least", x.set(law, 0), most[law]);
            due("law " + law + " at its least", x.lawOf(law), 0);
            due("law " + law + " one below", x.set(law, -1), BAD);
            for (int other = 0; other < 4; other++) {
                due("law " + other + " beside " + law, x.lawOf(other), other == law ? 0 : first[other]);
            }
        }
    }

    /** As many pages as VAN tells. */
    private static void vanAtItsEnds() {
        for (int van = 0; van <= 9; van++) {
            BlankRations x = withLaws(van, 0, 0, 0);
            x.person(POET, 99, 9, 0);
            x.weeks(1);
            due("VAN " + van + ": got", x.of(0, GOT), van);
            due("VAN " + van + ": back", x.state(1), 0);
            BlankRations y = withLaws(van, 0, 0, 0);
            y.weeks(1);
            due("VAN " + van + ": nobody", y.state(1), van);
        }
    }

    private static int doing(int kind, int hand, int pages, int lines, int rub, int what) {
        BlankRations x = withLaws(0, lines, rub, 0);
        x.person(kind, 0, hand, pages);
        return x.does(0, what);
    }

    /** 1000, and what one THINKS: least and most by HAND 0 or 9, LINES 0 or 9, RUB 0 or 9. */
    private static void thinksAtTheEnds() {
        int[] kinds = {ASKER, NOVELIST, WIDOW, POET, SISTER, BOY};
        int[] least = {2, 3, 1, 6, 1, 2};
        int[] byHand = {2, 3, 1, 6, 1, 11};
        int[] byRub = {2, 3, 1, 6, 10, 2};
        for (int i = 0; i < 6; i++) {
            due("thinks, nothing: " + kinds[i], doing(kinds[i], 0, 0, 0, 0, 0), 1000 + least[i]);
            due("thinks, hand: " + kinds[i], doing(kinds[i], 9, 0, 0, 0, 0), 1000 + byHand[i]);
            due("thinks, rub: " + kinds[i], doing(kinds[i], 0, 0, 0, 9, 0), 1000 + byRub[i]);
            due("thinks, lines and pages: " + kinds[i], doing(kinds[i], 0, 99, 9, 0, 0), 1000 + least[i]);
        }
    }

    private static void needsAtTheEnds() {
        int[] kinds = {ASKER, NOVELIST, WIDOW, POET, SISTER, BOY};
        int[] nothing = {10, 10, 20, 10, 15, 3};
        int[] byHand = {10, 10, 20, 1, 15, 3};
        int[] byLines = {10, 19, 20, 19, 15, 3};
        int[] byBoth = {10, 19, 20, 10, 15, 3};
        for (int i = 0; i < 6; i++) {
            due("needs, nothing: " + kinds[i], doing(kinds[i], 0, 0, 0, 0, 1), 1000 + nothing[i]);
            due("needs, hand: " + kinds[i], doing(kinds[i], 9, 0, 0, 0, 1), 1000 + byHand[i]);
            due("needs, lines: " + kinds[i], doing(kinds[i], 0, 0, 9, 0, 1), 1000 + byLines[i]);
            due("needs, both: " + kinds[i], doing(kinds[i], 9, 0, 9, 0, 1), 1000 + byBoth[i]);
            due("needs, rub and pages: " + kinds[i], doing(kinds[i], 0, 99, 0, 9, 1), 1000 + nothing[i]);
        }
    }

    private static void saysAtTheEnds() {
        int[] kinds = {ASKER, NOVELIST, WIDOW, POET, SISTER, BOY};
        int[] nothing = {1, 2, 1, 1, 1, 0};
        int[] byHand = {10, 20, 10, 19, 10, 0};
        int[] byRub = {1, 2, 10, 1, 10, 0};
        int[] byBoth = {10, 20, 19, 19, 19, 0};
        for (int i = 0; i < 6; i++) {
            due("says, nothing: " + kinds[i], doing(kinds[i], 0, 0, 0, 0, 2), 1000 + nothing[i]);
            due("says, hand: " + kinds[i], doing(kinds[i], 9, 0, 0, 0, 2), 1000 + byHand[i]);
            due("says, rub: " + kinds[i], doing(kinds[i], 0, 0, 0, 9, 2), 1000 + byRub[i]);
            due("says, both: " + kinds[i], doing(kinds[i], 9, 0, 0, 9, 2), 1000 + byBoth[i]);
            due("says, lines: " + kinds[i], doing(kinds[i], 9, 1, 9, 9, 2), 1000 + byBoth[i]);
            if (kinds[i] != SISTER) {
                due("says, pages: " + kinds[i], doing(kinds[i], 9, 99, 0, 9, 2), 1000 + byBoth[i]);
            }
        }
    }

    /** sister: as widow, and 1 for each page more than one that it has. */
    private static void aSistersPages() {
        int[] pages = {0, 1, 2, 3, 98, 99};
        int[] more = {0, 0, 1, 2, 97, 98};
        for (int i = 0; i < pages.length; i++) {
            due("a sister with " + pages[i], doing(SISTER, 0, pages[i], 0, 0, 2), 1001 + more[i]);
            BlankRations x = withLaws(0, 0, 0, 0);
            x.person(SISTER, 0, 0, pages[i]);
            due("a week of a sister with " + pages[i], x.words(1), pages[i] == 0 ? 0 : 1 + more[i]);
        }
    }

    /** asker: in all WEEKS. widow: in odd WEEKS. sister: in those alone whose rest by 3 is 0, too. boy: never. */
    private static void usesByTheWeek() {
        int[] kinds = {ASKER, NOVELIST, WIDOW, POET, SISTER, BOY};
        for (int kind : kinds) {
            BlankRations x = withLaws(0, 0, 0, 0);
            x.person(kind, 0, 0, 99);
            for (int week = 0; week <= 20; week++) {
                boolean isOdd = week % 2 == 1;
                boolean uses = kind == WIDOW ? isOdd : kind == SISTER ? week == 3 || week == 9 || week == 15 : kind != BOY;
                due("does: " + kind + " uses in week " + week, x.does(0, 3), uses ? 1001 : 1000);
                int before = x.of(0, PAGES);
                x.weeks(1);
                due("pages: " + kind + " uses in week " + week, before - x.of(0, PAGES), uses ? 1 : 0);
            }
        }
    }

    /** PEOPLE, 8 at most, numbered as they come. */
    private static void eightAtMost() {
        BlankRations x = new BlankRations();
        due("nobody's number", x.of(0, KIND), BAD);
        for (int i = 0; i < 8; i++) {
            due("number " + i, x.person(i % 6, i, i, i), i);
            due("there are", x.many(0), i + 1);
            due("the last one's kind", x.of(i, KIND), i % 6);
            due("nobody beyond", x.of(i + 1, KIND), BAD);
        }
        due("a ninth", x.person(0, 0, 0, 0), FULL);
        due("there are eight", x.many(0), 8);
        due("the first", x.of(0, THOUGHT), 0);
        due("the last", x.of(7, THOUGHT), 7);
    }

    /** GOT 0 at first, SAID 0 at first; WEEK, BACK 0 at first. */
    private static void atFirst() {
        BlankRations x = new BlankRations();
        due("week", x.state(0), 0);
        due("back", x.state(1), 0);
        x.person(NOVELIST, 99, 9, 99);
        due("got", x.of(0, GOT), 0);
        due("said", x.of(0, SAID), 0);
        x.weeks(60);
        x.person(NOVELIST, 99, 9, 99);
        due("got of a later one", x.of(1, GOT), 0);
        due("said by a later one", x.of(1, SAID), 0);
        Check.holds("the first one got and said", x.of(0, GOT) > 0 && x.of(0, SAID) > 0);
        x.words(60);
        x.post();
        x.person(ASKER, 0, 0, 0);
        due("got of one in the place of another", x.of(0, GOT), 0);
        due("said by one in the place of another", x.of(0, SAID), 0);
    }

    /** THOUGHT (0 to 99), HAND (0 to 9), PAGES (0 to 99): the least and the most at once. */
    private static void oneAtTheEnds() {
        BlankRations x = new BlankRations();
        due("the least", x.person(0, 0, 0, 0), 0);
        due("the most", x.person(5, 99, 9, 99), 1);
        int[] least = {0, 0, 0, 0, 0, 0};
        int[] most = {5, 99, 9, 99, 0, 0};
        for (int what = 0; what < 6; what++) {
            due("least: of " + what, x.of(0, what), least[what]);
            due("most: of " + what, x.of(1, what), most[what]);
        }
        due("thought from 0 to 99", x.thought(0, 99), 0);
        due("thought from 99 to 0", x.thought(1, 0), 99);
        due("pages from 0 to 99", x.own(0, 99), 0);
        due("pages from 99 to 0", x.own(1, 0), 99);
        due("all thought", x.state(4), 99);
        due("all pages", x.state(3), 99);
    }

    private static int thoughtAfter(int kind, int hand, int thought) {
        BlankRations x = withLaws(0, 0, 0, 0);
        x.person(kind, thought, hand, 0);
        x.weeks(1);
        return x.of(0, THOUGHT);
    }

    /** THOUGHT of each is what it THINKS more (held to 0 to 99). */
    private static void thoughtIsHeld() {
        due("asker 0", thoughtAfter(ASKER, 0, 0), 2);
        due("asker 96", thoughtAfter(ASKER, 0, 96), 98);
        due("asker 97", thoughtAfter(ASKER, 0, 97), 99);
        due("asker 98", thoughtAfter(ASKER, 0, 98), 99);
        due("asker 99", thoughtAfter(ASKER, 0, 99), 99);
        due("widow 98", thoughtAfter(WIDOW, 0, 98), 99);
        due("widow 99", thoughtAfter(WIDOW, 0, 99), 99);
        due("boy 87", thoughtAfter(BOY, 9, 87), 98);
        due("boy 88", thoughtAfter(BOY, 9, 88), 99);
        due("boy 99", thoughtAfter(BOY, 9, 99), 99);
    }

    private static void dueByThought(int kind, int just) {
        for (int less = 0; less < 2; less++) {
            BlankRations x = withLaws(1, 0, 0, 0);
            x.person(kind, just - less, 0, 0);
            int thinks = x.does(0, 0) - 1000;
            x.weeks(1);
            due("got, " + less + " less: " + kind, x.of(0, GOT), 1 - less);
            due("thought left, " + less + " less: " + kind, x.of(0, THOUGHT), less == 0 ? 0 : just - less + thinks);
            due("back, " + less + " less: " + kind, x.state(1), less);
        }
    }

    /** Those whose THOUGHT is what it NEEDS or more; THOUGHT is what it NEEDS less. */
    private static void justWhatItNeeds() {
        dueByThought(ASKER, 8);
        dueByThought(NOVELIST, 7);
        dueByThought(WIDOW, 19);
        dueByThought(POET, 4);
        dueByThought(SISTER, 14);
        dueByThought(BOY, 1);
    }

    /** And that have less than 99 PAGES. */
    private static void lessThan99Pages() {
        BlankRations x = withLaws(2, 0, 0, 0);
        x.person(BOY, 90, 0, 98);
        due("pages", x.weeks(1), 99);
        due("the second page has no place in the same week", x.of(0, GOT), 1);
        due("it went back", x.state(1), 1);
        due("pages", x.weeks(1), 99);
        due("neither has a third", x.of(0, GOT), 1);
        due("both went back", x.state(1), 3);
        BlankRations y = withLaws(1, 0, 0, 0);
        y.person(BOY, 99, 0, 99);
        y.person(BOY, 1, 0, 98);
        due("the page goes to the other", y.weeks(1), 198);
        due("got", y.of(1, GOT), 1);
        due("nothing went back", y.state(1), 0);
        BlankRations z = withLaws(1, 0, 0, 0);
        z.person(ASKER, 50, 0, 99);
        due("one that uses a page has 98 then", z.weeks(1), 98);
        due("and 98 again, with one given", z.weeks(1), 98);
        due("got", z.of(0, GOT), 1);
    }

    /** Of several the least. */
    private static void ofSeveralTheLeast() {
        BlankRations x = withLaws(1, 0, 0, 0);
        for (int i = 0; i < 8; i++) {
            x.person(ASKER, 28, 0, 0);
        }
        for (int week = 0; week < 8; week++) {
            x.weeks(1);
            for (int i = 0; i < 8; i++) {
                due("week " + week + ": got of " + i, x.of(i, GOT), i <= week ? 1 : 0);
            }
        }
        BlankRations y = withLaws(9, 0, 0, 0);
        for (int i = 0; i < 8; i++) {
            y.person(BOY, 4, 0, 0);
        }
        y.weeks(1);
        due("the ninth page is the first one's again", y.of(0, GOT), 2);
        due("the others got one", y.of(7, GOT), 1);
        due("nothing went back", y.state(1), 0);
    }

    /** The one by which it is most above that: what it NEEDS counts, not THOUGHT alone. */
    private static void mostAboveThat() {
        BlankRations x = withLaws(1, 9, 0, 0);
        x.person(NOVELIST, 50, 0, 0);
        x.person(ASKER, 41, 0, 0);
        x.person(WIDOW, 53, 0, 0);
        x.person(BOY, 35, 0, 0);
        // behind thinking: 53 - 19, 43 - 10, 54 - 20, 37 - 3: three are 34 above
        x.weeks(1);
        due("of equals the first", x.of(0, GOT), 1);
        BlankRations y = withLaws(1, 9, 0, 0);
        y.person(NOVELIST, 50, 0, 0);
        y.person(BOY, 36, 0, 0);
        y.weeks(1);
        due("1 more above, far less thought", y.of(1, GOT), 1);
        due("the novelist got none", y.of(0, GOT), 0);
    }

    /** If there is none, the page goes BACK. */
    private static void ifThereIsNone() {
        BlankRations x = withLaws(9, 0, 0, 0);
        x.person(ASKER, 38, 0, 0);
        x.weeks(1);
        due("four pages of 40", x.of(0, GOT), 4);
        due("thought", x.of(0, THOUGHT), 0);
        due("five go back", x.state(1), 5);
        x.weeks(1);
        due("nine more go back", x.state(1), 14);
    }

    /** Each that has a page then says what it SAYS. */
    private static void thatHasAPage() {
        BlankRations x = withLaws(1, 0, 0, 0);
        x.person(ASKER, 0, 4, 0);
        x.person(ASKER, 8, 6, 0);
        x.person(ASKER, 0, 8, 1);
        due("one with none, one with the van's, one with its own", x.words(1), 7 + 9);
        x.weeks(1);
        due("none: said", x.of(0, SAID), 0);
        due("the van's: said", x.of(1, SAID), 7);
        due("its own: said", x.of(2, SAID), 9);
    }

    /** And has 1 less, if it USES it: just one, never less than none. */
    private static void hasOneLess() {
        BlankRations x = withLaws(0, 0, 0, 0);
        x.person(ASKER, 0, 0, 1);
        x.person(ASKER, 0, 0, 0);
        x.person(ASKER, 0, 0, 99);
        due("pages", x.weeks(1), 98);
        due("the last one went", x.of(0, PAGES), 0);
        due("none stay none", x.of(1, PAGES), 0);
        due("one of 99", x.of(2, PAGES), 98);
        due("pages", x.weeks(60), 38);
        due("pages", x.weeks(38), 0);
        due("pages", x.weeks(1), 0);
    }

    /** BACK held to 9999. */
    private static void backIsHeld() {
        BlankRations x = withLaws(9, 0, 0, 0);
        for (int i = 0; i < 18; i++) {
            x.weeks(60);
        }
        due("back", x.state(1), 9720);
        x.weeks(30);
        due("back", x.state(1), 9990);
        x.set(VAN, 8);
        x.weeks(1);
        due("one less", x.state(1), 9998);
        x.keep();
        x.set(VAN, 1);
        x.weeks(1);
        due("the most", x.state(1), 9999);
        x.weeks(1);
        due("no more", x.state(1), 9999);
        x.again();
        x.set(VAN, 9);
        x.weeks(1);
        due("eight of nine too many", x.state(1), 9999);
    }

    /** GOT (how many pages it was given; 0 to 9999). */
    private static void gotIsHeld() {
        BlankRations x = withLaws(9, 0, 0, 0);
        x.person(POET, 99, 9, 0);
        for (int i = 0; i < 92; i++) {
            x.thought(0, 99);
            x.own(0, 0);
            x.weeks(12);
        }
        due("got by then", x.of(0, GOT), 9936);
        x.thought(0, 99);
        x.own(0, 0);
        x.weeks(6);
        due("got by then", x.of(0, GOT), 9990);
        x.set(VAN, 8);
        x.weeks(1);
        due("one less", x.of(0, GOT), 9998);
        x.set(VAN, 1);
        due("one more next week", x.gets(0), 1);
        x.weeks(1);
        due("the most", x.of(0, GOT), 9999);
        x.weeks(1);
        due("no more", x.of(0, GOT), 9999);
        x.set(VAN, 9);
        x.weeks(1);
        due("no more", x.of(0, GOT), 9999);
        due("the pages come, though", x.of(0, PAGES), 8 * 6 + 7 + 0 + 0 + 8);
    }

    /** SAID (0 to 99999). */
    private static void saidIsHeld() {
        BlankRations x = withLaws(0, 0, 9, 0);
        x.person(SISTER, 0, 9, 0);
        for (int i = 0; i < 14; i++) {
            x.own(0, 99);
            x.weeks(60);
        }
        due("said by then", x.of(0, SAID), 94220);
        x.own(0, 99);
        // 117 in each of 4 weeks, 116 to 110 in 6 weeks each, 109 in 5
        x.weeks(51);
        due("said by then", x.of(0, SAID), 94220 + 468 + 6 * 791 + 545);
        x.mind(0, ASKER, 8);
        x.own(0, 9);
        x.weeks(2);
        due("said by then", x.of(0, SAID), 99997);
        x.mind(0, ASKER, 0);
        x.weeks(1);
        due("one less", x.of(0, SAID), 99998);
        x.keep();
        x.weeks(1);
        due("the most", x.of(0, SAID), 99999);
        due("words go on", x.words(3), 3);
        due("a week's words go on", x.week(), 1);
        due("no more", x.of(0, SAID), 99999);
        x.again();
        x.mind(0, ASKER, 9);
        due("words go on", x.words(2), 20);
        x.weeks(1);
        due("nine of ten too many", x.of(0, SAID), 99999);
        due("of all together", x.state(2), 99999);
        x.person(ASKER, 0, 0, 1);
        x.weeks(1);
        due("the sum isn't held", x.state(2), 100000);
    }

    /** An object is used for at most 512 calls: the last of them answers as any; WEEK has no most. */
    private static void afterFiveHundredAndEleven() {
        BlankRations x = new BlankRations();
        x.set(VAN, 0);
        for (int call = 2; call <= 511; call++) {
            due("call " + call, x.weeks(60), 0);
        }
        due("call 512", x.state(0), 510 * 60);
    }

    /** NONE: it has none, or that one has 99; GOT of neither changes. */
    private static void givesTheLastPage() {
        BlankRations x = new BlankRations();
        x.person(ASKER, 0, 0, 1);
        x.person(ASKER, 0, 0, 98);
        due("its last one", x.give(0, 1), 99);
        due("it has none", x.give(0, 1), NONE);
        due("none", x.of(0, PAGES), 0);
        due("99", x.of(1, PAGES), 99);
        x.own(0, 5);
        due("that one has 99", x.give(0, 1), NONE);
        due("five", x.of(0, PAGES), 5);
        due("to the first", x.give(1, 0), 6);
        due("and there is room for one", x.give(0, 1), 99);
        x.own(0, 0);
        due("none, and 99", x.give(0, 1), NONE);
        due("to one that has none", x.give(1, 0), 1);
        due("got of the first", x.of(0, GOT), 0);
        due("got of the second", x.of(1, GOT), 0);
        due("given one ever", x.many(2), 0);
        BlankRations y = new BlankRations();
        for (int i = 0; i < 8; i++) {
            y.person(ASKER, 0, 0, 1);
        }
        due("the first to the last", y.give(0, 7), 2);
        due("the last to the first", y.give(7, 0), 1);
    }

    /** One becomes one of another KIND, with another HAND: the KIND that it was; all else of it stays. */
    private static void mindAtTheEnds() {
        BlankRations x = withLaws(3, 2, 1, 20);
        x.person(BOY, 99, 9, 99);
        x.person(ASKER, 99, 0, 0);
        x.weeks(2);
        int[] before = new int[6];
        for (int what = 0; what < 6; what++) {
            before[what] = x.of(1, what);
        }
        due("to the last kind, the most of hands", x.mind(1, BOY, 9), ASKER);
        due("kind", x.of(1, KIND), BOY);
        due("hand", x.of(1, HAND), 9);
        due("to the first kind, no hand", x.mind(1, ASKER, 0), BOY);
        for (int what = 0; what < 6; what++) {
            due("as before: " + what, x.of(1, what), before[what]);
        }
    }

    private static int step(int z) {
        return z * 1103515245 + 12345;
    }

    /** A seed from whose two draws the second leaves that by 100. */
    private static int seedThatLeaves(int leaves) {
        int seed = 0;
        while ((step(step(seed)) >>> 16) % 100 != leaves) {
            seed++;
        }
        return seed;
    }

    /** z (an int; 1 at first) becomes z * 1103515245 + 12345. */
    private static void zWraps() {
        int[] seeds = {MIN, MAX, -1, 0, 1, 2, 1 << 30};
        BlankRations x = new BlankRations();
        due("z at first", x.seed(5), 1);
        x.person(ASKER, 0, 0, 0);
        for (int seed : seeds) {
            x.seed(seed);
            x.week();
            due("z from " + seed, x.seed(0), step(step(seed)));
        }
        due("1 becomes", step(1), 1103527590);
        due("then", step(1103527590), -1770082073);
    }

    /** z >>> 16 is drawn: 0 to 65535, from a z below 0, too. */
    private static void drawsAreAbove0() {
        for (int seed = -2000; seed < 0; seed += 97) {
            BlankRations x = withLaws(0, 0, 0, 50);
            for (int i = 0; i < 7; i++) {
                x.person(WIDOW, 60, 0, 0);
            }
            x.seed(seed);
            x.week();
            int first = step(seed);
            int second = step(first);
            boolean slips = (second >>> 16) % 100 < 50;
            for (int i = 0; i < 7; i++) {
                boolean is = slips && i == (first >>> 16) % 7;
                due("seed " + seed + ": thought of " + i, x.of(i, THOUGHT), is ? 31 : 61);
            }
        }
    }

    /** If there are PEOPLE, a draw; without, z stays and a WEEK passes. */
    private static void ifThereArePeople() {
        BlankRations x = new BlankRations();
        due("nobody says nothing", x.week(), 0);
        due("a week passed", x.state(0), 1);
        due("the van went back", x.state(1), 3);
        due("nothing was drawn", x.seed(1), 1);
        due("nobody is poor", x.poor(30), 0);
        x.person(ASKER, 0, 0, 1);
        due("one says", x.week(), 1);
        due("two were drawn", x.seed(1), step(step(1)));
    }

    /** The one that it leaves by how many there are: one of one, the first and the last of eight. */
    private static void theOneThatItLeaves() {
        for (int there = 1; there <= 8; there++) {
            for (int want = 0; want < there; want++) {
                int seed = 0;
                while ((step(seed) >>> 16) % there != want || (step(step(seed)) >>> 16) % 100 >= 99) {
                    seed++;
                }
                BlankRations x = withLaws(0, 0, 0, 99);
                for (int i = 0; i < there; i++) {
                    x.person(WIDOW, 80, 0, 0);
                }
                x.seed(seed);
                x.week();
                for (int i = 0; i < there; i++) {
                    due(want + " of " + there + ": thought of " + i, x.of(i, THOUGHT), i == want ? 41 : 81);
                }
            }
        }
    }

    /** If what that leaves by 100 is below SLIP. */
    private static void whatLeavesIsBelowSlip() {
        int[][] cases = {{0, 0, 0}, {0, 1, 1}, {1, 1, 0}, {19, 20, 1}, {20, 20, 0}, {98, 99, 1}, {99, 99, 0}, {99, 0, 0}};
        for (int[] c : cases) {
            BlankRations x = withLaws(0, 0, 0, c[1]);
            x.person(WIDOW, 80, 0, 0);
            x.seed(seedThatLeaves(c[0]));
            x.week();
            due("leaves " + c[0] + ", SLIP " + c[1], x.of(0, THOUGHT), c[2] == 1 ? 41 : 81);
        }
    }

    /** THOUGHT of that one is half (cut); then a WEEK. */
    private static void halfIsCut() {
        int[] thoughts = {0, 1, 2, 3, 98, 99};
        int[] halves = {0, 0, 1, 1, 49, 49};
        for (int i = 0; i < thoughts.length; i++) {
            BlankRations x = withLaws(0, 0, 0, 99);
            x.person(WIDOW, thoughts[i], 0, 0);
            x.seed(seedThatLeaves(0));
            x.week();
            due("half of " + thoughts[i], x.of(0, THOUGHT), halves[i] + 1);
        }
    }

    /** POOR (n 1 to 30); z alone goes on from one to the next, and is as it was behind them. */
    private static void poorAtTheEnds() {
        BlankRations x = withLaws(1, 0, 0, 99);
        x.person(ASKER, 8, 0, 0);
        int z = seedThatLeaves(99);
        x.seed(z);
        due("the first of 30 has no slip", x.poor(1), 0);
        int poor = 0;
        int at = z;
        for (int i = 0; i < 30; i++) {
            at = step(step(at));
            poor += (at >>> 16) % 100 < 99 ? 1 : 0;
        }
        due("of thirty", x.poor(30), poor);
        Check.holds("most of thirty", poor > 25);
        due("z is as it was", x.seed(seedThatLeaves(0)), z);
        due("a slip in one", x.poor(1), 1);
        due("thought is as it was", x.of(0, THOUGHT), 8);
        due("none", x.poor(0), BAD);
        due("31", x.poor(31), BAD);
    }

    /** Less is said than WORDS by 1: not as much. */
    private static void poorIsLess() {
        BlankRations x = withLaws(1, 0, 0, 99);
        x.person(ASKER, 0, 9, 1);
        x.seed(seedThatLeaves(0));
        due("as much, whatever slips", x.poor(30), 0);
        x.own(0, 99);
        due("WORDS by 1, not by more", x.poor(30), 0);
        x.own(0, 0);
        due("0 is as much as 0", x.poor(30), 0);
        // the boy takes the page, if nothing slips; if it slips, the asker says more
        BlankRations y = withLaws(1, 0, 0, 99);
        y.person(BOY, 20, 0, 0);
        y.person(ASKER, 20, 0, 0);
        int z = 0;
        while ((step(z) >>> 16) % 2 != 0 || (step(step(z)) >>> 16) % 100 >= 99) {
            z++;
        }
        y.seed(z);
        due("words by 1", y.words(1), 0);
        due("more isn't poor", y.poor(1), 0);
        due("more it is", y.week(), 1);
    }

    /** 5 those whose THOUGHT is what it NEEDS or more, as a set. */
    private static void setOfThoseReady() {
        BlankRations x = new BlankRations();
        due("nobody", x.state(5), 0);
        for (int i = 0; i < 8; i++) {
            x.person(ASKER, 9, 0, 0);
        }
        due("none", x.state(5), 0);
        due("none", x.many(3), 0);
        for (int i = 0; i < 8; i++) {
            x.thought(i, 10);
            due("up to " + i, x.state(5), (2 << i) - 1);
            due("up to " + i, x.many(3), i + 1);
        }
        x.thought(0, 9);
        due("all but the first", x.state(5), 254);
        x.own(1, 99);
        due("pages count nothing here", x.state(5), 254);
    }
}
