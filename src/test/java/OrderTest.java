/** "Of several the first named": where several refusals apply, and that the call changes nothing then either. */
final class OrderTest {
    private static final int BAD = BlankRations.BAD, NONE = BlankRations.NONE;
    private static final int MIN = Integer.MIN_VALUE, MAX = Integer.MAX_VALUE;
    /** Of Whole.rich(): nobody's number, one without PAGES, one with 99, a SHEET of shorts, a missing one. */
    private static final int NOBODY = 6, POOR_ONE = 3, FULL_ONE = 4, SHORTS = 1, MISSING = 3;

    private OrderTest() { }

    static void run() {
        badBeforeNone();
        badBeforeNoneOfNobody();
        badBeforeMissing();
        badBeforeSort();
        badBeforePlace();
        badBeforeSize();
        missingBeforePlace();
        sortBeforePlace();
        missingBeforeNone();
        whatCountsNothing();
    }

    private static void refused(long refusal, String name, long... v) {
        RangesTest.refused(refusal, name, v);
    }

    private static void badBeforeNone() {
        refused(BAD, "give", POOR_ONE, POOR_ONE);
        refused(BAD, "give", FULL_ONE, FULL_ONE);
        refused(BAD, "give", POOR_ONE, NOBODY);
        refused(BAD, "give", POOR_ONE, -1);
        refused(BAD, "give", NOBODY, FULL_ONE);
        refused(BAD, "give", -1, FULL_ONE);
        refused(NONE, "vanFor", 20, 9999);
        refused(BAD, "vanFor", 0, 9999);
        refused(BAD, "vanFor", 21, 9999);
        refused(BAD, "vanFor", 1, 10000);
        refused(BAD, "vanFor", 1, MAX);
        refused(NONE, "fewest", 10, 9999);
        refused(BAD, "fewest", 0, 9999);
        refused(BAD, "fewest", 11, 9999);
        refused(BAD, "fewest", 1, 10000);
        refused(NONE, "packed", 1);
        refused(BAD, "packed", 0);
        refused(BAD, "packed", MIN);
    }

    private static void badBeforeNoneOfNobody() {
        BlankRations x = new BlankRations();
        Check.due("nobody: needed(1)", x.needed(1), NONE);
        Check.due("nobody: needed(0)", x.needed(0), BAD);
        Check.due("nobody: needed(21)", x.needed(21), BAD);
        Check.due("nobody: gets(0)", x.gets(0), BAD);
        Check.due("nobody: thoughtFor(0, 1)", x.thoughtFor(0, 1), BAD);
        Check.due("no rows, nobody: judge(0)", x.judge(0), BAD);
        x.person(0, 0, 0, 0);
        x.set(0, 0);
        Check.due("no van: gets(0)", x.gets(0), NONE);
        Check.due("no van: gets(1)", x.gets(1), BAD);
        Check.due("no van: thoughtFor(0, 20)", x.thoughtFor(0, 20), NONE);
        Check.due("no van: thoughtFor(0, 21)", x.thoughtFor(0, 21), BAD);
        Check.due("no van: thoughtFor(0, 0)", x.thoughtFor(0, 0), BAD);
        Check.due("no van: thoughtFor(1, 20)", x.thoughtFor(1, 20), BAD);
        Check.due("no rows: judge(1)", x.judge(1), BAD);
        Check.due("no rows: judge(0)", x.judge(0), 0);
    }

    private static void badBeforeMissing() {
        refused(BAD, "fits", MISSING, NOBODY, 0);
        refused(BAD, "fits", MISSING, -1, 0);
        refused(BAD, "fits", MISSING, 0, 2);
        refused(BAD, "fits", MISSING, 0, -1);
        refused(BAD, "minds", MISSING, 0, NOBODY, 0);
        refused(BAD, "minds", MISSING, 0, -1, 0);
        refused(BAD, "minds", MISSING, 0, 0, 9);
        refused(BAD, "minds", MISSING, 0, 0, -1);
        refused(BAD, "minds", MISSING, 0, NOBODY - 1, 2);
        refused(BAD, "item", MISSING, 4, 0);
        refused(BAD, "item", MISSING, -1, 0);
        refused(BAD, "taken", 3, 6);
        refused(BAD, "taken", 3, 9);
        refused(BAD, "taken", 3, 14);
        refused(BAD, "taken", 3, -1);
    }

    private static void badBeforeSort() {
        refused(BAD, "minds", SHORTS, 0, NOBODY, 1);
        refused(BAD, "minds", SHORTS, 0, -1, 1);
        refused(BAD, "minds", SHORTS, 0, 0, 9);
        refused(BAD, "minds", SHORTS, 0, 0, -1);
        refused(BAD, "minds", SHORTS, 0, NOBODY - 1, 2);
        refused(BAD, "item", SHORTS, 4, 0);
        refused(BAD, "taken", 0, 14);
        refused(BAD, "taken", 1, 9);
    }

    private static void badBeforePlace() {
        refused(BAD, "minds", 0, -1, NOBODY, 0);
        refused(BAD, "minds", 0, 6, 0, 9);
        refused(BAD, "minds", 0, MAX, 0, -1);
        refused(BAD, "minds", 0, MIN, NOBODY - 1, 2);
        refused(BAD, "minds", 4, -1, 0, 0);
        refused(BAD, "put", 4, -1, 7);
        refused(BAD, "put", -1, MAX, 7);
        refused(BAD, "item", 4, 0, -1);
        refused(BAD, "item", 0, 4, -1);
        refused(BAD, "item", 0, -1, MAX);
    }

    private static void badBeforeSize() {
        refused(BAD, "sheet", 4, 0, -1);
        refused(BAD, "sheet", -1, 0, -1);
        refused(BAD, "sheet", 0, 4, -1);
        refused(BAD, "sheet", 0, -2, -1);
        refused(BAD, "sheet", 4, 0, 41);
        refused(BAD, "sheet", 4, -1, 0);
        refused(BAD, "sheet", -1, -1, 0);
    }

    private static void missingBeforePlace() {
        refused(-11, "put", MISSING, -1, 7);
        refused(-11, "put", MISSING, 40, 7);
        refused(-11, "item", MISSING, 0, -1);
        refused(-11, "item", MISSING, 3, 40);
        refused(-11, "minds", MISSING, -1, 0, 1);
        refused(-11, "minds", MISSING, 40, 0, 0);
    }

    private static void sortBeforePlace() {
        refused(-13, "item", SHORTS, 0, -1);
        refused(-13, "item", SHORTS, 2, 4);
        refused(-13, "item", SHORTS, 3, MAX);
        refused(-13, "minds", SHORTS, -1, 0, 1);
        refused(-13, "minds", SHORTS, 5, 0, 0);
        refused(-13, "minds", SHORTS, 3, 0, 2);
    }

    private static void missingBeforeNone() {
        refused(-11, "fits", MISSING, 0, 1);
        BlankRations x = Whole.rich();
        x.put(0, 0, -2);
        Check.due("what can't be said fits none", x.fits(0, 0, 0), 0);
        Check.due("the least of none", x.fits(0, 0, 1), NONE);
    }

    /** "Missing (sort -1; n counts nothing then)", and nothing (what 2). */
    private static void whatCountsNothing() {
        long[] any = {-1, 0, 41, MIN, MAX};
        for (long n : any) {
            BlankRations x = Whole.rich();
            Check.due("35: missing, n " + n, Face.call(x, "sheet", 0, -1, n), 1);
            Check.due("35: it is", x.item(0, 0, 0), -11);
            Check.due("38: nothing, n " + n, Face.call(x, "shelf", 0, 2, n), 1);
            Check.due("38: it is", x.taken(0, 0), -11);
        }
    }
}
