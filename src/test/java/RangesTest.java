/**
 * Each number of each call: the least and the most that it may be are taken; one beyond each, and the ints at
 * their ends, are refused as the document says, and a refused call changes nothing.
 */
final class RangesTest {
    private static final int BAD = BlankRations.BAD, FULL = BlankRations.FULL, NONE = BlankRations.NONE;
    private static final int MIN = Integer.MIN_VALUE, MAX = Integer.MAX_VALUE;

    private static final String RICH = Whole.all(Whole.rich());
    private static final String FULL_ONE = Whole.all(Whole.full());

    private RangesTest() { }

    static void run() {
        Check.holds("one that is as another tells the same", RICH.equals(Whole.all(Whole.rich())));
        Check.holds("a full one tells other things", !RICH.equals(FULL_ONE));
        laws();
        people();
        weeks();
        tried();
        odds();
        rows();
        sheets();
        shelves();
        fulls();
    }

    private static String told(String name, long... v) {
        StringBuilder text = new StringBuilder(name).append('(');
        for (int i = 0; i < v.length; i++) {
            text.append(i == 0 ? "" : ", ").append(v[i]);
        }
        return text.append(')').toString();
    }

    private static long[] with(long[] base, int at, long v) {
        long[] numbers = base.clone();
        numbers[at] = v;
        return numbers;
    }

    /** What a rich one answers, being asked with the base's numbers, but v at one place. */
    private static long answer(String name, int at, long v, long... base) {
        return Face.call(Whole.rich(), name, with(base, at, v));
    }

    static void refused(long refusal, String name, long... v) {
        BlankRations x = Whole.rich();
        Check.due(told(name, v), Face.call(x, name, v), refusal);
        Check.holds(told(name, v) + " changes nothing", Whole.all(x).equals(RICH));
    }

    private static void refusedByFull(long refusal, String name, long... v) {
        BlankRations x = Whole.full();
        Check.due("full: " + told(name, v), Face.call(x, name, v), refusal);
        Check.holds("full: " + told(name, v) + " changes nothing", Whole.all(x).equals(FULL_ONE));
    }

    private static void taken(int refusal, String name, int at, long v, long... base) {
        long got = answer(name, at, v, base);
        Check.holds(told(name, with(base, at, v)) + " is taken, it answered " + got, got != refusal);
    }

    /** A number from least to most; anything else is refused. */
    private static void range(int refusal, String name, int at, int least, int most, long... base) {
        taken(refusal, name, at, least, base);
        taken(refusal, name, at, most, base);
        int[] beyond = {least - 1, most + 1, MIN, MAX};
        for (int v : beyond) {
            refused(refusal, name, with(base, at, v));
        }
    }

    private static void laws() {
        range(BAD, "set", 0, 0, 3, 0, 5);
        int[] most = {9, 9, 9, 99};
        for (int law = 0; law < 4; law++) {
            range(BAD, "set", 1, 0, most[law], law, 0);
        }
        range(BAD, "lawOf", 0, 0, 3, 0);
    }

    private static void people() {
        range(BAD, "person", 0, 0, 5, 0, 1, 1, 1);
        range(BAD, "person", 1, 0, 99, 0, 1, 1, 1);
        range(BAD, "person", 2, 0, 9, 0, 1, 1, 1);
        range(BAD, "person", 3, 0, 99, 0, 1, 1, 1);
        range(BAD, "of", 0, 0, 5, 0, 1);
        range(BAD, "of", 1, 0, 5, 0, 1);
        range(BAD, "does", 0, 0, 5, 0, 1);
        range(BAD, "does", 1, 0, 3, 0, 1);
        range(BAD, "mind", 0, 0, 5, 0, 3, 4);
        range(BAD, "mind", 1, 0, 5, 0, 3, 4);
        range(BAD, "mind", 2, 0, 9, 0, 3, 4);
        range(BAD, "thought", 0, 0, 5, 0, 7);
        range(BAD, "thought", 1, 0, 99, 0, 7);
        range(BAD, "own", 0, 0, 5, 0, 7);
        range(BAD, "own", 1, 0, 99, 0, 7);
        range(BAD, "give", 0, 0, 5, 0, 2);
        range(BAD, "give", 1, 0, 5, 2, 0);
        for (int one = 0; one < 6; one++) {
            refused(BAD, "give", one, one);
        }
        refused(NONE, "give", 3, 0);
        refused(NONE, "give", 0, 4);
        refused(NONE, "give", 3, 4);
    }

    private static void weeks() {
        range(BAD, "weeks", 0, 1, 60, 1);
        range(BAD, "poor", 0, 1, 30, 1);
        range(BAD, "state", 0, 0, 5, 0);
        range(BAD, "many", 0, 0, 6, 0);
    }

    private static void tried() {
        range(BAD, "words", 0, 0, 60, 1);
        range(BAD, "gets", 0, 0, 5, 0);
        range(BAD, "vanFor", 0, 1, 20, 1, 9);
        range(BAD, "vanFor", 1, 0, 9999, 1, 9);
        range(BAD, "kindFor", 0, 0, 5, 0, 1);
        range(BAD, "kindFor", 1, 1, 20, 0, 1);
        range(BAD, "thoughtFor", 0, 0, 5, 0, 1);
        range(BAD, "thoughtFor", 1, 1, 20, 0, 1);
        range(BAD, "needed", 0, 1, 20, 1);
        range(BAD, "fewest", 0, 1, 10, 1, 9);
        range(BAD, "fewest", 1, 0, 9999, 1, 9);
        range(BAD, "packed", 0, 1, 99, 1);
        range(BAD, "fits", 0, 0, 3, 0, 0, 0);
        range(BAD, "fits", 1, 0, 5, 0, 0, 0);
        range(BAD, "fits", 2, 0, 1, 0, 0, 0);
    }

    private static void odds() {
        range(BAD, "odds", 0, 0, 8, 4, 0, 0);
        for (int n = 0; n <= 8; n++) {
            range(BAD, "odds", 1, 0, n, n, 0, 0);
        }
        range(BAD, "odds", 2, 0, 1, 4, 2, 0);
        range(BAD, "hope", 0, 0, 99, 4, 0);
        range(BAD, "hope", 1, 0, 1, 4, 0);
    }

    private static void rows() {
        range(BAD, "prove", 0, 0, 5, 0, 3);
        range(BAD, "prove", 1, 1, 10, 0, 3);
        range(-9, "row", 0, 0, 3, 0, 1);
        range(-9, "row", 1, 0, 2, 3, 0);
        range(-9, "alterRow", 0, 0, 3, 0, 1, 7);
        range(-9, "alterRow", 1, 0, 2, 3, 0, 7);
        range(BAD, "judge", 0, 0, 5, 0);
    }

    private static void sheets() {
        range(BAD, "minds", 0, 0, 3, 0, 0, 0, 2);
        range(-12, "minds", 1, 0, 3, 0, 0, 0, 2);
        range(-12, "minds", 1, 0, 5, 0, 0, 0, 0);
        range(BAD, "minds", 2, 0, 4, 0, 0, 0, 2);
        range(BAD, "minds", 2, 0, 5, 0, 0, 0, 0);
        range(BAD, "minds", 3, 0, 6, 0, 0, 0, 0);
        range(BAD, "sheet", 0, 0, 3, 0, 1, 3);
        range(BAD, "sheet", 1, -1, 3, 0, 1, 3);
        taken(BAD, "sheet", 2, 0, 0, 1, 0);
        taken(BAD, "sheet", 2, 40, 0, 1, 0);
        refused(BAD, "sheet", 0, 1, 41);
        refused(BAD, "sheet", 0, 1, MAX);
        refused(-14, "sheet", 0, 1, -1);
        refused(-14, "sheet", 0, 1, MIN);
        range(BAD, "put", 0, 0, 3, 0, 0, 7);
        range(-12, "put", 1, 0, 4, 0, 0, 7);
        range(BAD, "item", 0, 0, 3, 0, 0, 0);
        range(BAD, "item", 1, 0, 3, 0, 0, 0);
        range(-12, "item", 2, 0, 4, 0, 0, 0);
        refused(-11, "put", 3, 0, 7);
        refused(-11, "item", 3, 0, 0);
        refused(-11, "minds", 3, 0, 0, 1);
        refused(-11, "fits", 3, 0, 0);
        refused(-13, "minds", 1, 0, 0, 1);
        refused(-13, "item", 0, 1, 0);
    }

    private static void shelves() {
        range(BAD, "shelf", 0, 0, 3, 0, 0, 0);
        range(BAD, "shelf", 1, 0, 2, 0, 0, 0);
        range(BAD, "shelf", 2, 0, 5, 0, 0, 0);
        range(BAD, "shelf", 2, 0, 3, 0, 1, 0);
        range(BAD, "taken", 0, 0, 3, 0, 0);
        range(BAD, "taken", 1, 0, 5, 0, 0);
        taken(BAD, "taken", 1, 10, 0, 0);
        taken(BAD, "taken", 1, 13, 0, 0);
        for (int as = 6; as < 10; as++) {
            refused(BAD, "taken", 0, as);
        }
        refused(BAD, "taken", 0, 14);
        refused(-11, "taken", 3, 0);
        refused(-11, "taken", 3, 10);
        refused(-13, "taken", 0, 1);
        refused(-13, "taken", 1, 11);
        int[] noBody = {-1, 11, MIN, MAX};
        Check.due("the last body of the trace", Whole.rich().trace(10), 12);
        for (int i : noBody) {
            refused(NONE, "trace", i);
        }
    }

    /** No more room: for a ninth one, for a 201st byte; and what asks beyond it changes nothing. */
    private static void fulls() {
        range(BAD, "feed", 1, 1, 8, 0x2020202020202020L, 1);
        refusedByFull(FULL, "person", 0, 0, 0, 0);
        refusedByFull(FULL, "person", 5, 99, 9, 99);
        refusedByFull(BAD, "person", 6, 0, 0, 0);
        refusedByFull(FULL, "feed", 0x2020202020202020L, 1);
        refusedByFull(FULL, "feed", 0x2020202020202020L, 8);
        refusedByFull(BAD, "feed", 0x2020202020202020L, 0);
        refusedByFull(BAD, "feed", 0x2020202020202020L, 9);
        refusedByFull(BAD, "of", 8, 0);
        refusedByFull(BAD, "give", 0, 8);
        refusedByFull(BAD, "minds", 0, 0, 0, 9);
        refusedByFull(BAD, "minds", 0, 0, 7, 2);
        refusedByFull(-12, "minds", 0, 0, 0, 8);
        refusedByFull(NONE, "packed", 1);
        refusedByFull(NONE, "vanFor", 20, 9999);
        refusedByFull(NONE, "fewest", 10, 9999);
    }
}
